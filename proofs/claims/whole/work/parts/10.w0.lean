noncomputable def xf_J6_bitCount_0f7a4 (σ : xr_S) (a1 : Int32) : Option Int32 := xr_v ((a1 - (((Int32.toUInt32 a1 >>> (Int32.toUInt32 1 &&& Int32.toUInt32 31)).toInt32) &&& 1431655765))) (fun v1 => xr_v (((v1 &&& 858993459) + (((Int32.toUInt32 v1 >>> (Int32.toUInt32 2 &&& Int32.toUInt32 31)).toInt32) &&& 858993459))) (fun v2 => xr_v (((v2 + ((Int32.toUInt32 v2 >>> (Int32.toUInt32 4 &&& Int32.toUInt32 31)).toInt32)) &&& 252645135)) (fun v3 => xr_v ((v3 + ((Int32.toUInt32 v3 >>> (Int32.toUInt32 8 &&& Int32.toUInt32 31)).toInt32))) (fun v4 => xr_v ((v4 + ((Int32.toUInt32 v4 >>> (Int32.toUInt32 16 &&& Int32.toUInt32 31)).toInt32))) (fun v5 => some (v5 &&& 63))))))
set_option maxRecDepth 100000 in
set_option maxHeartbeats 4000000 in
theorem xc_J6_bitCount_0f7a4 (l : Launch) (D : va_G) (ad : Nat → Nat) (ca : Nat → ClassId) (σ : xr_S) (a1 : Int32) (q : Int32) (hf : xf_J6_bitCount_0f7a4 σ a1 = some q) : xr_M l D ad ca yJ6_bitCount_0f7a4 cJ6_bitCount_0f7a4 1 (some .int) 0 0 [.int a1] σ (some (.int q)) σ := by
  refine xr_openI [some (.int a1)] xm_J6_bitCount_0f7a4 (Nat.le_of_ble_eq_true rfl) rfl (fun J B RR => ?_)
  unfold xf_J6_bitCount_0f7a4 at hf
  refine xr_iload_n B dJ6_bitCount_0f7a4_0 rfl rfl ?_
  refine xr_iload_n B dJ6_bitCount_0f7a4_1 rfl rfl ?_
  refine xr_iconst B (v := 1) dJ6_bitCount_0f7a4_2 (by decide) ?_
  refine xr_iushr B dJ6_bitCount_0f7a4_3 ?_
  refine xr_ldcw B xk_J6_265 dJ6_bitCount_0f7a4_4 ?_
  refine xr_iand B dJ6_bitCount_0f7a4_7 ?_
  refine xr_isub B dJ6_bitCount_0f7a4_8 ?_
  refine xr_top _ hf (fun v1 hf => ?_)
  refine xr_istore_n B (lv2 := [some (.int v1)]) dJ6_bitCount_0f7a4_9 rfl (by decide) rfl ?_
  refine xr_iload_n B dJ6_bitCount_0f7a4_10 rfl rfl ?_
  refine xr_ldcw B xk_J6_266 dJ6_bitCount_0f7a4_11 ?_
  refine xr_iand B dJ6_bitCount_0f7a4_14 ?_
  refine xr_iload_n B dJ6_bitCount_0f7a4_15 rfl rfl ?_
  refine xr_iconst B (v := 2) dJ6_bitCount_0f7a4_16 (by decide) ?_
  refine xr_iushr B dJ6_bitCount_0f7a4_17 ?_
  refine xr_ldcw B xk_J6_266 dJ6_bitCount_0f7a4_18 ?_
  refine xr_iand B dJ6_bitCount_0f7a4_21 ?_
  refine xr_iadd B dJ6_bitCount_0f7a4_22 ?_
  refine xr_top _ hf (fun v2 hf => ?_)
  refine xr_istore_n B (lv2 := [some (.int v2)]) dJ6_bitCount_0f7a4_23 rfl (by decide) rfl ?_
  refine xr_iload_n B dJ6_bitCount_0f7a4_24 rfl rfl ?_
  refine xr_iload_n B dJ6_bitCount_0f7a4_25 rfl rfl ?_
  refine xr_iconst B (v := 4) dJ6_bitCount_0f7a4_26 (by decide) ?_
  refine xr_iushr B dJ6_bitCount_0f7a4_27 ?_
  refine xr_iadd B dJ6_bitCount_0f7a4_28 ?_
  refine xr_ldcw B xk_J6_267 dJ6_bitCount_0f7a4_29 ?_
  refine xr_iand B dJ6_bitCount_0f7a4_32 ?_
  refine xr_top _ hf (fun v3 hf => ?_)
  refine xr_istore_n B (lv2 := [some (.int v3)]) dJ6_bitCount_0f7a4_33 rfl (by decide) rfl ?_
  refine xr_iload_n B dJ6_bitCount_0f7a4_34 rfl rfl ?_
  refine xr_iload_n B dJ6_bitCount_0f7a4_35 rfl rfl ?_
  refine xr_bipush B (v := 8) dJ6_bitCount_0f7a4_36 (by decide) ?_
  refine xr_iushr B dJ6_bitCount_0f7a4_38 ?_
  refine xr_iadd B dJ6_bitCount_0f7a4_39 ?_
  refine xr_top _ hf (fun v4 hf => ?_)
  refine xr_istore_n B (lv2 := [some (.int v4)]) dJ6_bitCount_0f7a4_40 rfl (by decide) rfl ?_
  refine xr_iload_n B dJ6_bitCount_0f7a4_41 rfl rfl ?_
  refine xr_iload_n B dJ6_bitCount_0f7a4_42 rfl rfl ?_
  refine xr_bipush B (v := 16) dJ6_bitCount_0f7a4_43 (by decide) ?_
  refine xr_iushr B dJ6_bitCount_0f7a4_45 ?_
  refine xr_iadd B dJ6_bitCount_0f7a4_46 ?_
  refine xr_top _ hf (fun v5 hf => ?_)
  refine xr_istore_n B (lv2 := [some (.int v5)]) dJ6_bitCount_0f7a4_47 rfl (by decide) rfl ?_
  refine xr_iload_n B dJ6_bitCount_0f7a4_48 rfl rfl ?_
  refine xr_bipush B (v := 63) dJ6_bitCount_0f7a4_49 (by decide) ?_
  refine xr_iand B dJ6_bitCount_0f7a4_51 ?_
  obtain rfl := Option.some.inj hf
  exact RR _ _ _ dJ6_bitCount_0f7a4_52 rfl

noncomputable def xf_J7_fill_53178_L5 (v1 : Int32) (c : Nat) (n : Nat) (a1 : Int32) (K5 : xr_S → Option xr_S) (t2 : (Int32 × xr_S)) (rec3 : (Int32 × xr_S) → Option xr_S) : Option xr_S := if v1 ≤ t2.1 then (K5 t2.2) else (xr_st t2.2 c n t2.1 a1 (fun s6 => rec3 ((t2.1 + 1), s6)))
noncomputable def xf_J7_fill_53178 (σ : xr_S) (c : Nat) (n : Nat) (a1 : Int32) : Option xr_S := xr_v ((Int32.ofNat n)) (fun v1 => xr_lw (xf_J7_fill_53178_L5 v1 c n a1 (fun (e4 : xr_S) => some e4)) (0, σ))
set_option maxRecDepth 100000 in
set_option maxHeartbeats 4000000 in
theorem xc_J7_fill_53178 (l : Launch) (D : va_G) (ad : Nat → Nat) (ca : Nat → ClassId) (σ : xr_S) (c : Nat) (n : Nat) (a1 : Int32) (hc : xr_sh[c]? = some (.inl (0, n))) (q : xr_S) (hf : xf_J7_fill_53178 σ c n a1 = some q) : xr_M l D ad ca yJ7_fill_53178 cJ7_fill_53178 4 none 0 0 [.ref (ad c), .int a1] σ none q := by
  refine xr_openV [some (.ref (ad c)), some (.int a1), none, none] xm_J7_fill_53178 (Nat.le_of_ble_eq_true rfl) rfl (fun J B RR => ?_)
  unfold xf_J7_fill_53178 at hf
  refine xr_iconst B (v := 0) dJ7_fill_53178_0 (by decide) ?_
  refine xr_istore_n B (lv2 := [some (.ref (ad c)), some (.int a1), some (.int 0), none]) dJ7_fill_53178_1 rfl (by decide) rfl ?_
  refine xr_aload_n B dJ7_fill_53178_2 rfl rfl ?_
  refine xr_alen B (v := (Int32.ofNat n)) hc rfl dJ7_fill_53178_3 ?_
  refine xr_top _ hf (fun v1 hf => ?_)
  refine xr_istore_n B (lv2 := [some (.ref (ad c)), some (.int a1), some (.int 0), some (.int v1)]) dJ7_fill_53178_4 rfl (by decide) rfl ?_
  refine xq_loop (fun (t2 : (Int32 × xr_S)) => J 5 [some (.ref (ad c)), some (.int a1), some (.int t2.1), some (.int v1)] [] t2.2) (fun (e4 : xr_S) => J 20 [none, none, none, none] [] e4) hf (fun e4 hf => ?_) (fun K5 hK5 t2 rec3 hrec3 hf => ?_)
  · obtain rfl := Option.some.inj hf
    exact RR _ _ dJ7_fill_53178_20 rfl
  · have hrec3 : ∀ (b1 : Int32) (b2 : xr_S), rec3 (b1, b2) = some q → J 5 [some (.ref (ad c)), some (.int a1), some (.int b1), some (.int v1)] [] b2 := fun b1 b2 h => hrec3 (b1, b2) h
    unfold xf_J7_fill_53178_L5 at hf
    refine xr_iload_n B dJ7_fill_53178_5 rfl rfl ?_
    refine xr_iload_n B dJ7_fill_53178_6 rfl rfl ?_
    refine xr_ic_ge B (tgt := 20) dJ7_fill_53178_7 (by decide) hf (fun _ hf => ?_) (fun _ hf => ?_)
    · refine xr_forget B (lv2 := [none, none, none, none]) trivial ?_
      exact hK5 t2.2 hf
    · refine xr_aload_n B dJ7_fill_53178_10 rfl rfl ?_
      refine xr_iload_n B dJ7_fill_53178_11 rfl rfl ?_
      refine xr_iload_n B dJ7_fill_53178_12 rfl rfl ?_
      refine xq_iast B hc dJ7_fill_53178_13 hf (fun s6 hf => ?_)
      refine xr_iinc B (v := (t2.1 + 1)) (lv2 := [some (.ref (ad c)), some (.int a1), some (.int (t2.1 + 1)), some (.int v1)]) dJ7_fill_53178_14 rfl (congrArg (t2.1 + ·) (by decide : Int32.ofInt (1) = 1)) (by decide) rfl ?_
      refine xr_goto B (tgt := 5) dJ7_fill_53178_17 (by decide) ?_
      exact hrec3 (t2.1 + 1) s6 hf

noncomputable def xf_X9_of (σ : xr_S) (c : Nat) (a1 : Int32) (a2 : Int32) : Option Int32 := xr_jn (fun (w1 : Int32) => if w1 = 0 then (some 0) else (xr_ld σ (c + 1) 30 ((a1 * 5) + a2) (fun v3 => some v3))) (fun j2 => if a1 < 0 then (j2 0) else (if 6 ≤ a1 then (j2 0) else (if a2 < 0 then (j2 0) else (if 5 ≤ a2 then (j2 0) else (j2 1)))))
set_option maxRecDepth 100000 in
set_option maxHeartbeats 4000000 in
theorem xc_X9_of (l : Launch) (D : va_G) (ad : Nat → Nat) (ca : Nat → ClassId) (σ : xr_S) (c : Nat) (a1 : Int32) (a2 : Int32) (hc : xr_isW c) (q : Int32) (hf : xf_X9_of σ c a1 a2 = some q) : xr_M l D ad ca yX9_of cX9_of 4 (some .int) 0 0 [.ref (ad c), .int a1, .int a2] σ (some (.int q)) σ := by
  refine xr_openI [some (.ref (ad c)), some (.int a1), some (.int a2), none] xm_X9_of (Nat.le_of_ble_eq_true rfl) rfl (fun J B RR => ?_)
  unfold xf_X9_of at hf
  refine xr_iload_n B dX9_of_0 rfl rfl ?_
  refine xr_meet (fun (w1 : Int32) => J 24 [some (.ref (ad c)), some (.int a1), some (.int a2), none] [.int w1] σ) hf (fun w1 hf => ?_) (fun j2 hj2 hf => ?_)
  · refine xr_istore_n B (lv2 := [some (.ref (ad c)), some (.int a1), some (.int a2), some (.int w1)]) dX9_of_24 rfl (by decide) rfl ?_
    refine xr_iload_n B dX9_of_25 rfl rfl ?_
    refine xr_if_eq B (tgt := 42) dX9_of_26 (by decide) hf (fun _ hf => ?_) (fun _ hf => ?_)
    · refine xr_iconst B (v := 0) dX9_of_42 (by decide) ?_
      obtain rfl := Option.some.inj hf
      exact RR _ _ _ dX9_of_43 rfl
    · refine xr_aload_n B dX9_of_29 rfl rfl ?_
      refine xr_getR B xg_X9_9 hc.1 rfl dX9_of_30 ?_
      refine xr_iload_n B dX9_of_33 rfl rfl ?_
      refine xr_iconst B (v := 5) dX9_of_34 (by decide) ?_
      refine xr_imul B dX9_of_35 ?_
      refine xr_iload_n B dX9_of_36 rfl rfl ?_
      refine xr_iadd B dX9_of_37 ?_
      refine xq_iald B hc.2 dX9_of_38 hf (fun v3 hf => ?_)
      refine xr_goto B (tgt := 43) dX9_of_39 (by decide) ?_
      obtain rfl := Option.some.inj hf
      exact RR _ _ _ dX9_of_43 rfl
  · refine xr_if_lt B (tgt := 23) dX9_of_1 (by decide) hf (fun _ hf => ?_) (fun _ hf => ?_)
    · refine xr_iconst B (v := 0) dX9_of_23 (by decide) ?_
      exact hj2 0 hf
    · refine xr_iload_n B dX9_of_4 rfl rfl ?_
      refine xr_bipush B (v := 6) dX9_of_5 (by decide) ?_
      refine xr_ic_ge B (tgt := 23) dX9_of_7 (by decide) hf (fun _ hf => ?_) (fun _ hf => ?_)
      · refine xr_iconst B (v := 0) dX9_of_23 (by decide) ?_
        exact hj2 0 hf
      · refine xr_iload_n B dX9_of_10 rfl rfl ?_
        refine xr_if_lt B (tgt := 23) dX9_of_11 (by decide) hf (fun _ hf => ?_) (fun _ hf => ?_)
        · refine xr_iconst B (v := 0) dX9_of_23 (by decide) ?_
          exact hj2 0 hf
        · refine xr_iload_n B dX9_of_14 rfl rfl ?_
          refine xr_iconst B (v := 5) dX9_of_15 (by decide) ?_
          refine xr_ic_ge B (tgt := 23) dX9_of_16 (by decide) hf (fun _ hf => ?_) (fun _ hf => ?_)
          · refine xr_iconst B (v := 0) dX9_of_23 (by decide) ?_
            exact hj2 0 hf
          · refine xr_iconst B (v := 1) dX9_of_19 (by decide) ?_
            refine xr_goto B (tgt := 24) dX9_of_20 (by decide) ?_
            exact hj2 1 hf

noncomputable def xf_X9_put (σ : xr_S) (c : Nat) (a1 : Int32) (a2 : Int32) (a3 : Int32) : Option xr_S := if a1 < 0 then (some σ) else (if 6 ≤ a1 then (some σ) else (if a2 < 0 then (some σ) else (if 5 ≤ a2 then (some σ) else (xr_st σ (c + 1) 30 ((a1 * 5) + a2) a3 (fun s1 => some s1)))))
set_option maxRecDepth 100000 in
set_option maxHeartbeats 4000000 in
theorem xc_X9_put (l : Launch) (D : va_G) (ad : Nat → Nat) (ca : Nat → ClassId) (σ : xr_S) (c : Nat) (a1 : Int32) (a2 : Int32) (a3 : Int32) (hc : xr_isW c) (q : xr_S) (hf : xf_X9_put σ c a1 a2 a3 = some q) : xr_M l D ad ca yX9_put cX9_put 4 none 0 0 [.ref (ad c), .int a1, .int a2, .int a3] σ none q := by
  refine xr_openV [some (.ref (ad c)), some (.int a1), some (.int a2), some (.int a3)] xm_X9_put (Nat.le_of_ble_eq_true rfl) rfl (fun J B RR => ?_)
  unfold xf_X9_put at hf
  refine xr_iload_n B dX9_put_0 rfl rfl ?_
  refine xr_if_lt B (tgt := 30) dX9_put_1 (by decide) hf (fun _ hf => ?_) (fun _ hf => ?_)
  · obtain rfl := Option.some.inj hf
    exact RR _ _ dX9_put_30 rfl
  · refine xr_iload_n B dX9_put_4 rfl rfl ?_
    refine xr_bipush B (v := 6) dX9_put_5 (by decide) ?_
    refine xr_ic_ge B (tgt := 30) dX9_put_7 (by decide) hf (fun _ hf => ?_) (fun _ hf => ?_)
    · obtain rfl := Option.some.inj hf
      exact RR _ _ dX9_put_30 rfl
    · refine xr_iload_n B dX9_put_10 rfl rfl ?_
      refine xr_if_lt B (tgt := 30) dX9_put_11 (by decide) hf (fun _ hf => ?_) (fun _ hf => ?_)
      · obtain rfl := Option.some.inj hf
        exact RR _ _ dX9_put_30 rfl
      · refine xr_iload_n B dX9_put_14 rfl rfl ?_
        refine xr_iconst B (v := 5) dX9_put_15 (by decide) ?_
        refine xr_ic_ge B (tgt := 30) dX9_put_16 (by decide) hf (fun _ hf => ?_) (fun _ hf => ?_)
        · obtain rfl := Option.some.inj hf
          exact RR _ _ dX9_put_30 rfl
        · refine xr_aload_n B dX9_put_19 rfl rfl ?_
          refine xr_getR B xg_X9_9 hc.1 rfl dX9_put_20 ?_
          refine xr_iload_n B dX9_put_23 rfl rfl ?_
          refine xr_iconst B (v := 5) dX9_put_24 (by decide) ?_
          refine xr_imul B dX9_put_25 ?_
          refine xr_iload_n B dX9_put_26 rfl rfl ?_
          refine xr_iadd B dX9_put_27 ?_
          refine xr_iload_n B dX9_put_28 rfl rfl ?_
          refine xq_iast B hc.2 dX9_put_29 hf (fun s1 hf => ?_)
          obtain rfl := Option.some.inj hf
          exact RR _ _ dX9_put_30 rfl

noncomputable def xf_X9_all_L14 (σ : xr_S) (c : Nat) (a1 : Int32) (K4 : Int32 → Option Int32) (t1 : (Int32 × Int32)) (rec2 : (Int32 × Int32) → Option Int32) : Option Int32 := if 5 ≤ t1.2 then (K4 t1.1) else (xr_ld σ (c + 1) 30 ((a1 * 5) + t1.2) (fun v5 => xr_v ((t1.1 + v5)) (fun v6 => rec2 (v6, (t1.2 + 1)))))
noncomputable def xf_X9_all (σ : xr_S) (c : Nat) (a1 : Int32) : Option Int32 := if a1 < 0 then (some 0) else (if 6 ≤ a1 then (some 0) else (xr_lw (xf_X9_all_L14 σ c a1 (fun (e3 : Int32) => some e3)) (0, 0)))
set_option maxRecDepth 100000 in
set_option maxHeartbeats 4000000 in
theorem xc_X9_all (l : Launch) (D : va_G) (ad : Nat → Nat) (ca : Nat → ClassId) (σ : xr_S) (c : Nat) (a1 : Int32) (hc : xr_isW c) (q : Int32) (hf : xf_X9_all σ c a1 = some q) : xr_M l D ad ca yX9_all cX9_all 4 (some .int) 0 0 [.ref (ad c), .int a1] σ (some (.int q)) σ := by
  refine xr_openI [some (.ref (ad c)), some (.int a1), none, none] xm_X9_all (Nat.le_of_ble_eq_true rfl) rfl (fun J B RR => ?_)
  unfold xf_X9_all at hf
  refine xr_iconst B (v := 0) dX9_all_0 (by decide) ?_
  refine xr_istore_n B (lv2 := [some (.ref (ad c)), some (.int a1), some (.int 0), none]) dX9_all_1 rfl (by decide) rfl ?_
  refine xr_iload_n B dX9_all_2 rfl rfl ?_
  refine xr_if_lt B (tgt := 38) dX9_all_3 (by decide) hf (fun _ hf => ?_) (fun _ hf => ?_)
  · refine xr_iload_n B dX9_all_38 rfl rfl ?_
    obtain rfl := Option.some.inj hf
    exact RR _ _ _ dX9_all_39 rfl
  · refine xr_iload_n B dX9_all_6 rfl rfl ?_
    refine xr_bipush B (v := 6) dX9_all_7 (by decide) ?_
    refine xr_ic_ge B (tgt := 38) dX9_all_9 (by decide) hf (fun _ hf => ?_) (fun _ hf => ?_)
    · refine xr_iload_n B dX9_all_38 rfl rfl ?_
      obtain rfl := Option.some.inj hf
      exact RR _ _ _ dX9_all_39 rfl
    · refine xr_iconst B (v := 0) dX9_all_12 (by decide) ?_
      refine xr_istore_n B (lv2 := [some (.ref (ad c)), some (.int a1), some (.int 0), some (.int 0)]) dX9_all_13 rfl (by decide) rfl ?_
      refine xq_loop (fun (t1 : (Int32 × Int32)) => J 14 [some (.ref (ad c)), some (.int a1), some (.int t1.1), some (.int t1.2)] [] σ) (fun (e3 : Int32) => J 38 [none, none, some (.int e3), none] [] σ) hf (fun e3 hf => ?_) (fun K4 hK4 t1 rec2 hrec2 hf => ?_)
      · refine xr_iload_n B dX9_all_38 rfl rfl ?_
        obtain rfl := Option.some.inj hf
        exact RR _ _ _ dX9_all_39 rfl
      · have hrec2 : ∀ (b1 : Int32) (b2 : Int32), rec2 (b1, b2) = some q → J 14 [some (.ref (ad c)), some (.int a1), some (.int b1), some (.int b2)] [] σ := fun b1 b2 h => hrec2 (b1, b2) h
        unfold xf_X9_all_L14 at hf
        refine xr_iload_n B dX9_all_14 rfl rfl ?_
        refine xr_iconst B (v := 5) dX9_all_15 (by decide) ?_
        refine xr_ic_ge B (tgt := 38) dX9_all_16 (by decide) hf (fun _ hf => ?_) (fun _ hf => ?_)
        · refine xr_forget B (lv2 := [none, none, some (.int t1.1), none]) ⟨rfl, trivial⟩ ?_
          exact hK4 t1.1 hf
        · refine xr_iload_n B dX9_all_19 rfl rfl ?_
          refine xr_aload_n B dX9_all_20 rfl rfl ?_
          refine xr_getR B xg_X9_9 hc.1 rfl dX9_all_21 ?_
          refine xr_iload_n B dX9_all_24 rfl rfl ?_
          refine xr_iconst B (v := 5) dX9_all_25 (by decide) ?_
          refine xr_imul B dX9_all_26 ?_
          refine xr_iload_n B dX9_all_27 rfl rfl ?_
          refine xr_iadd B dX9_all_28 ?_
          refine xq_iald B hc.2 dX9_all_29 hf (fun v5 hf => ?_)
          refine xr_iadd B dX9_all_30 ?_
          refine xr_top _ hf (fun v6 hf => ?_)
          refine xr_istore_n B (lv2 := [some (.ref (ad c)), some (.int a1), some (.int v6), some (.int t1.2)]) dX9_all_31 rfl (by decide) rfl ?_
          refine xr_iinc B (v := (t1.2 + 1)) (lv2 := [some (.ref (ad c)), some (.int a1), some (.int v6), some (.int (t1.2 + 1))]) dX9_all_32 rfl (congrArg (t1.2 + ·) (by decide : Int32.ofInt (1) = 1)) (by decide) rfl ?_
          refine xr_goto B (tgt := 14) dX9_all_35 (by decide) ?_
          exact hrec2 v6 (t1.2 + 1) hf

noncomputable def xf_X9_top_L19 (σ : xr_S) (c : Nat) (v1 : Int32) (K5 : Int32 → Option Int32) (t2 : (Int32 × Int32)) (rec3 : (Int32 × Int32) → Option Int32) : Option Int32 := if 5 ≤ t2.2 then (K5 t2.1) else (xr_ld σ (c + 1) 30 (v1 + t2.2) (fun v6 => xr_ld σ (c + 1) 30 (v1 + t2.1) (fun v7 => xr_jn (fun (w8 : Int32) => rec3 (w8, (t2.2 + 1))) (fun j9 => if v6 ≤ v7 then (j9 t2.1) else (j9 t2.2)))))
noncomputable def xf_X9_top (σ : xr_S) (c : Nat) (a1 : Int32) : Option Int32 := if a1 < 0 then (some 0) else (if 6 ≤ a1 then (some 0) else (xr_v ((a1 * 5)) (fun v1 => xr_lw (xf_X9_top_L19 σ c v1 (fun (e4 : Int32) => some e4)) (0, 1))))
set_option maxRecDepth 100000 in
set_option maxHeartbeats 4000000 in
theorem xc_X9_top (l : Launch) (D : va_G) (ad : Nat → Nat) (ca : Nat → ClassId) (σ : xr_S) (c : Nat) (a1 : Int32) (hc : xr_isW c) (q : Int32) (hf : xf_X9_top σ c a1 = some q) : xr_M l D ad ca yX9_top cX9_top 5 (some .int) 0 0 [.ref (ad c), .int a1] σ (some (.int q)) σ := by
  refine xr_openI [some (.ref (ad c)), some (.int a1), none, none, none] xm_X9_top (Nat.le_of_ble_eq_true rfl) rfl (fun J B RR => ?_)
  unfold xf_X9_top at hf
  refine xr_iconst B (v := 0) dX9_top_0 (by decide) ?_
  refine xr_istore_n B (lv2 := [some (.ref (ad c)), some (.int a1), some (.int 0), none, none]) dX9_top_1 rfl (by decide) rfl ?_
  refine xr_iload_n B dX9_top_2 rfl rfl ?_
  refine xr_if_lt B (tgt := 54) dX9_top_3 (by decide) hf (fun _ hf => ?_) (fun _ hf => ?_)
  · refine xr_iload_n B dX9_top_54 rfl rfl ?_
    obtain rfl := Option.some.inj hf
    exact RR _ _ _ dX9_top_55 rfl
  · refine xr_iload_n B dX9_top_6 rfl rfl ?_
    refine xr_bipush B (v := 6) dX9_top_7 (by decide) ?_
    refine xr_ic_ge B (tgt := 54) dX9_top_9 (by decide) hf (fun _ hf => ?_) (fun _ hf => ?_)
    · refine xr_iload_n B dX9_top_54 rfl rfl ?_
      obtain rfl := Option.some.inj hf
      exact RR _ _ _ dX9_top_55 rfl
    · refine xr_iload_n B dX9_top_12 rfl rfl ?_
      refine xr_iconst B (v := 5) dX9_top_13 (by decide) ?_
      refine xr_imul B dX9_top_14 ?_
      refine xr_top _ hf (fun v1 hf => ?_)
      refine xr_istore_n B (lv2 := [some (.ref (ad c)), some (.int a1), some (.int 0), some (.int v1), none]) dX9_top_15 rfl (by decide) rfl ?_
      refine xr_iconst B (v := 1) dX9_top_16 (by decide) ?_
      refine xr_istore B (lv2 := [some (.ref (ad c)), some (.int a1), some (.int 0), some (.int v1), some (.int 1)]) dX9_top_17 (by decide) rfl ?_
      refine xr_forget B (lv2 := [some (.ref (ad c)), none, some (.int 0), some (.int v1), some (.int 1)]) ⟨rfl, ⟨rfl, ⟨rfl, ⟨rfl, trivial⟩⟩⟩⟩ ?_
      refine xq_loop (fun (t2 : (Int32 × Int32)) => J 19 [some (.ref (ad c)), none, some (.int t2.1), some (.int v1), some (.int t2.2)] [] σ) (fun (e4 : Int32) => J 54 [none, none, some (.int e4), none, none] [] σ) hf (fun e4 hf => ?_) (fun K5 hK5 t2 rec3 hrec3 hf => ?_)
      · refine xr_iload_n B dX9_top_54 rfl rfl ?_
        obtain rfl := Option.some.inj hf
        exact RR _ _ _ dX9_top_55 rfl
      · have hrec3 : ∀ (b1 : Int32) (b2 : Int32), rec3 (b1, b2) = some q → J 19 [some (.ref (ad c)), none, some (.int b1), some (.int v1), some (.int b2)] [] σ := fun b1 b2 h => hrec3 (b1, b2) h
        unfold xf_X9_top_L19 at hf
        refine xr_iload B dX9_top_19 rfl ?_
        refine xr_iconst B (v := 5) dX9_top_21 (by decide) ?_
        refine xr_ic_ge B (tgt := 54) dX9_top_22 (by decide) hf (fun _ hf => ?_) (fun _ hf => ?_)
        · refine xr_forget B (lv2 := [none, none, some (.int t2.1), none, none]) ⟨rfl, trivial⟩ ?_
          exact hK5 t2.1 hf
        · refine xr_aload_n B dX9_top_25 rfl rfl ?_
          refine xr_getR B xg_X9_9 hc.1 rfl dX9_top_26 ?_
          refine xr_iload_n B dX9_top_29 rfl rfl ?_
          refine xr_iload B dX9_top_30 rfl ?_
          refine xr_iadd B dX9_top_32 ?_
          refine xq_iald B hc.2 dX9_top_33 hf (fun v6 hf => ?_)
          refine xr_aload_n B dX9_top_34 rfl rfl ?_
          refine xr_getR B xg_X9_9 hc.1 rfl dX9_top_35 ?_
          refine xr_iload_n B dX9_top_38 rfl rfl ?_
          refine xr_iload_n B dX9_top_39 rfl rfl ?_
          refine xr_iadd B dX9_top_40 ?_
          refine xq_iald B hc.2 dX9_top_41 hf (fun v7 hf => ?_)
          refine xr_meet (fun (w8 : Int32) => J 48 [some (.ref (ad c)), none, some (.int w8), some (.int v1), some (.int t2.2)] [] σ) hf (fun w8 hf => ?_) (fun j9 hj9 hf => ?_)
          · refine xr_iinc B (v := (t2.2 + 1)) (lv2 := [some (.ref (ad c)), none, some (.int w8), some (.int v1), some (.int (t2.2 + 1))]) dX9_top_48 rfl (congrArg (t2.2 + ·) (by decide : Int32.ofInt (1) = 1)) (by decide) rfl ?_
            refine xr_goto B (tgt := 19) dX9_top_51 (by decide) ?_
            exact hrec3 w8 (t2.2 + 1) hf
          · refine xr_ic_le B (tgt := 48) dX9_top_42 (by decide) hf (fun _ hf => ?_) (fun _ hf => ?_)
            · exact hj9 t2.1 hf
            · refine xr_iload B dX9_top_45 rfl ?_
              refine xr_istore_n B (lv2 := [some (.ref (ad c)), none, some (.int t2.2), some (.int v1), some (.int t2.2)]) dX9_top_47 rfl (by decide) rfl ?_
              exact hj9 t2.2 hf

noncomputable def xf_X9_grow (σ : xr_S) (c : Nat) (a1 : Int32) (a2 : Int32) (a3 : Int32) : Option (Int32 × xr_S) := (xf_X9_of σ c a1 a2).bind (fun v1 => xr_v ((if (v1 + a3) < 9 then (v1 + a3) else 9)) (fun v2 => (xf_X9_put σ c a1 a2 v2).bind (fun s3 => if v2 = v1 then (some (0, s3)) else (some (1, s3)))))
set_option maxRecDepth 100000 in
set_option maxHeartbeats 4000000 in
theorem xc_X9_grow (l : Launch) (D : va_G) (ad : Nat → Nat) (ca : Nat → ClassId) (σ : xr_S) (c : Nat) (a1 : Int32) (a2 : Int32) (a3 : Int32) (hc : xr_isW c) (q : (Int32 × xr_S)) (hf : xf_X9_grow σ c a1 a2 a3 = some q) : xr_M l D ad ca yX9_grow cX9_grow 6 (some .boolean) 1 23 [.ref (ad c), .int a1, .int a2, .int a3] σ (some (.int q.1)) q.2 := by
  refine xr_openZ [some (.ref (ad c)), some (.int a1), some (.int a2), some (.int a3), none, none] xm_X9_grow (Nat.le_of_ble_eq_true rfl) rfl (fun J B RR => ?_)
  unfold xf_X9_grow at hf
  refine xr_aload_n B dX9_grow_0 rfl rfl ?_
  refine xr_iload_n B dX9_grow_1 rfl rfl ?_
  refine xr_iload_n B dX9_grow_2 rfl rfl ?_
  refine xr_cVi B (rest := []) [.int a1, .int a2] xm_X9_of xv_X9_15 (fun q hq => xc_X9_of l D ad ca σ c a1 a2 hc q hq) hc.1 rfl rfl (by decide) rfl (Nat.le_of_ble_eq_true rfl) dX9_grow_3 hf (fun v1 hf => ?_)
  refine xr_istore B (lv2 := [some (.ref (ad c)), some (.int a1), some (.int a2), some (.int a3), some (.int v1), none]) dX9_grow_6 (by decide) rfl ?_
  refine xr_bipush B (v := 9) dX9_grow_8 (by decide) ?_
  refine xr_iload B dX9_grow_10 rfl ?_
  refine xr_iload_n B dX9_grow_12 rfl rfl ?_
  refine xr_iadd B dX9_grow_13 ?_
  refine xq_mmin B xs_X9_19 (by decide) (by decide) (Nat.le_of_ble_eq_true rfl) dX9_grow_14 ?_
  refine xr_top _ hf (fun v2 hf => ?_)
  refine xr_istore B (lv2 := [some (.ref (ad c)), some (.int a1), some (.int a2), some (.int a3), some (.int v1), some (.int v2)]) dX9_grow_17 (by decide) rfl ?_
  refine xr_aload_n B dX9_grow_19 rfl rfl ?_
  refine xr_iload_n B dX9_grow_20 rfl rfl ?_
  refine xr_iload_n B dX9_grow_21 rfl rfl ?_
  refine xr_iload B dX9_grow_22 rfl ?_
  refine xr_cVv B (rest := []) [.int a1, .int a2, .int v2] xm_X9_put xv_X9_24 (fun q hq => xc_X9_put l D ad ca σ c a1 a2 v2 hc q hq) hc.1 rfl rfl (by decide) rfl (Nat.le_of_ble_eq_true rfl) dX9_grow_24 hf (fun s3 hf => ?_)
  refine xr_iload B dX9_grow_27 rfl ?_
  refine xr_iload B dX9_grow_29 rfl ?_
  refine xr_ic_eq B (tgt := 38) dX9_grow_31 (by decide) hf (fun _ hf => ?_) (fun _ hf => ?_)
  · refine xr_iconst B (v := 0) dX9_grow_38 (by decide) ?_
    obtain rfl := Option.some.inj hf
    exact RR _ _ _ (by decide) dX9_grow_39 rfl
  · refine xr_iconst B (v := 1) dX9_grow_34 (by decide) ?_
    refine xr_goto B (tgt := 39) dX9_grow_35 (by decide) ?_
    obtain rfl := Option.some.inj hf
    exact RR _ _ _ (by decide) dX9_grow_39 rfl

noncomputable def xf_X9_become (σ : xr_S) (c : Nat) (c2 : Nat) : Option xr_S := xr_cp σ (c2 + 1) (c + 1) 30 30 0 0 30 (fun s1 => some s1)
set_option maxRecDepth 100000 in
set_option maxHeartbeats 4000000 in
theorem xc_X9_become (l : Launch) (D : va_G) (ad : Nat → Nat) (ca : Nat → ClassId) (σ : xr_S) (c : Nat) (c2 : Nat) (hc : xr_isW c) (hc2 : xr_isW c2) (q : xr_S) (hf : xf_X9_become σ c c2 = some q) : xr_M l D ad ca yX9_become cX9_become 2 none 1 26 [.ref (ad c), .ref (ad c2)] σ none q := by
  refine xr_openV [some (.ref (ad c)), some (.ref (ad c2))] xm_X9_become (Nat.le_of_ble_eq_true rfl) rfl (fun J B RR => ?_)
  unfold xf_X9_become at hf
  refine xr_aload_n B dX9_become_0 rfl rfl ?_
  refine xr_getR B xg_X9_9 hc2.1 rfl dX9_become_1 ?_
  refine xr_iconst B (v := 0) dX9_become_4 (by decide) ?_
  refine xr_aload_n B dX9_become_5 rfl rfl ?_
  refine xr_getR B xg_X9_9 hc.1 rfl dX9_become_6 ?_
  refine xr_iconst B (v := 0) dX9_become_9 (by decide) ?_
  refine xr_aload_n B dX9_become_10 rfl rfl ?_
  refine xr_getR B xg_X9_9 hc.1 rfl dX9_become_11 ?_
  refine xr_alen B (v := 30) hc.2 rfl dX9_become_14 ?_
  refine xq_copy B xa_X9_28 hc2.2 hc.2 (by decide) (by decide) (Nat.le_of_ble_eq_true rfl) dX9_become_15 hf (fun s1 hf => ?_)
  obtain rfl := Option.some.inj hf
  exact RR _ _ dX9_become_18 rfl

noncomputable def xf_X9_clear (σ : xr_S) (c : Nat) : Option xr_S := (xf_J7_fill_53178 σ (c + 1) 30 0).bind (fun s1 => some s1)
set_option maxRecDepth 100000 in
set_option maxHeartbeats 4000000 in
theorem xc_X9_clear (l : Launch) (D : va_G) (ad : Nat → Nat) (ca : Nat → ClassId) (σ : xr_S) (c : Nat) (hc : xr_isW c) (q : xr_S) (hf : xf_X9_clear σ c = some q) : xr_M l D ad ca yX9_clear cX9_clear 1 none 1 23 [.ref (ad c)] σ none q := by
  refine xr_openV [some (.ref (ad c))] xm_X9_clear (Nat.le_of_ble_eq_true rfl) rfl (fun J B RR => ?_)
  unfold xf_X9_clear at hf
  refine xr_aload_n B dX9_clear_0 rfl rfl ?_
  refine xr_getR B xg_X9_9 hc.1 rfl dX9_clear_1 ?_
  refine xr_iconst B (v := 0) dX9_clear_4 (by decide) ?_
  refine xr_cSv B (rest := []) [.ref (ad (c + 1)), .int 0] xm_J7_fill_53178 xs_X9_34 (fun q hq => xc_J7_fill_53178 l D ad ca σ (c + 1) 30 0 hc.2 q hq) rfl (by decide) rfl (Nat.le_of_ble_eq_true rfl) dX9_clear_5 hf (fun s1 hf => ?_)
  obtain rfl := Option.some.inj hf
  exact RR _ _ dX9_clear_8 rfl

noncomputable def xf_X7_hasDream (σ : xr_S) (a1 : Int32) : Option Int32 := if a1 < 0 then (some 0) else (if (σ.1 9 0) ≤ a1 then (some 0) else (some 1))
set_option maxRecDepth 100000 in
set_option maxHeartbeats 4000000 in
theorem xc_X7_hasDream (l : Launch) (D : va_G) (ad : Nat → Nat) (ca : Nat → ClassId) (σ : xr_S) (a1 : Int32) (q : Int32) (hf : xf_X7_hasDream σ a1 = some q) : xr_M l D ad ca yX7_hasDream cX7_hasDream 2 (some .boolean) 0 0 [.ref (ad 9), .int a1] σ (some (.int q)) σ := by
  refine xr_openZ [some (.ref (ad 9)), some (.int a1)] xm_X7_hasDream (Nat.le_of_ble_eq_true rfl) rfl (fun J B RR => ?_)
  unfold xf_X7_hasDream at hf
  refine xr_iload_n B dX7_hasDream_0 rfl rfl ?_
  refine xr_if_lt B (tgt := 16) dX7_hasDream_1 (by decide) hf (fun _ hf => ?_) (fun _ hf => ?_)
  · refine xr_iconst B (v := 0) dX7_hasDream_16 (by decide) ?_
    obtain rfl := Option.some.inj hf
    exact RR _ _ _ (by decide) dX7_hasDream_17 rfl
  · refine xr_iload_n B dX7_hasDream_4 rfl rfl ?_
    refine xr_aload_n B dX7_hasDream_5 rfl rfl ?_
    refine xr_getI B xg_X7_28 xh_9 rfl dX7_hasDream_6 ?_
    refine xr_ic_ge B (tgt := 16) dX7_hasDream_9 (by decide) hf (fun _ hf => ?_) (fun _ hf => ?_)
    · refine xr_iconst B (v := 0) dX7_hasDream_16 (by decide) ?_
      obtain rfl := Option.some.inj hf
      exact RR _ _ _ (by decide) dX7_hasDream_17 rfl
    · refine xr_iconst B (v := 1) dX7_hasDream_12 (by decide) ?_
      refine xr_goto B (tgt := 17) dX7_hasDream_13 (by decide) ?_
      obtain rfl := Option.some.inj hf
      exact RR _ _ _ (by decide) dX7_hasDream_17 rfl

noncomputable def xf_X7_hasSleeper (σ : xr_S) (a1 : Int32) : Option Int32 := if a1 < 0 then (some 0) else (if (σ.1 9 2) ≤ a1 then (some 0) else (some 1))
set_option maxRecDepth 100000 in
set_option maxHeartbeats 4000000 in
theorem xc_X7_hasSleeper (l : Launch) (D : va_G) (ad : Nat → Nat) (ca : Nat → ClassId) (σ : xr_S) (a1 : Int32) (q : Int32) (hf : xf_X7_hasSleeper σ a1 = some q) : xr_M l D ad ca yX7_hasSleeper cX7_hasSleeper 2 (some .boolean) 0 0 [.ref (ad 9), .int a1] σ (some (.int q)) σ := by
  refine xr_openZ [some (.ref (ad 9)), some (.int a1)] xm_X7_hasSleeper (Nat.le_of_ble_eq_true rfl) rfl (fun J B RR => ?_)
  unfold xf_X7_hasSleeper at hf
  refine xr_iload_n B dX7_hasSleeper_0 rfl rfl ?_
  refine xr_if_lt B (tgt := 16) dX7_hasSleeper_1 (by decide) hf (fun _ hf => ?_) (fun _ hf => ?_)
  · refine xr_iconst B (v := 0) dX7_hasSleeper_16 (by decide) ?_
    obtain rfl := Option.some.inj hf
    exact RR _ _ _ (by decide) dX7_hasSleeper_17 rfl
  · refine xr_iload_n B dX7_hasSleeper_4 rfl rfl ?_
    refine xr_aload_n B dX7_hasSleeper_5 rfl rfl ?_
    refine xr_getI B xg_X7_32 xh_9 rfl dX7_hasSleeper_6 ?_
    refine xr_ic_ge B (tgt := 16) dX7_hasSleeper_9 (by decide) hf (fun _ hf => ?_) (fun _ hf => ?_)
    · refine xr_iconst B (v := 0) dX7_hasSleeper_16 (by decide) ?_
      obtain rfl := Option.some.inj hf
      exact RR _ _ _ (by decide) dX7_hasSleeper_17 rfl
    · refine xr_iconst B (v := 1) dX7_hasSleeper_12 (by decide) ?_
      refine xr_goto B (tgt := 17) dX7_hasSleeper_13 (by decide) ?_
      obtain rfl := Option.some.inj hf
      exact RR _ _ _ (by decide) dX7_hasSleeper_17 rfl

noncomputable def xf_X7_hasLoaf (σ : xr_S) (a1 : Int32) : Option Int32 := if a1 < 0 then (some 0) else (if (σ.1 9 3) ≤ a1 then (some 0) else (some 1))
set_option maxRecDepth 100000 in
set_option maxHeartbeats 4000000 in
theorem xc_X7_hasLoaf (l : Launch) (D : va_G) (ad : Nat → Nat) (ca : Nat → ClassId) (σ : xr_S) (a1 : Int32) (q : Int32) (hf : xf_X7_hasLoaf σ a1 = some q) : xr_M l D ad ca yX7_hasLoaf cX7_hasLoaf 2 (some .boolean) 0 0 [.ref (ad 9), .int a1] σ (some (.int q)) σ := by
  refine xr_openZ [some (.ref (ad 9)), some (.int a1)] xm_X7_hasLoaf (Nat.le_of_ble_eq_true rfl) rfl (fun J B RR => ?_)
  unfold xf_X7_hasLoaf at hf
  refine xr_iload_n B dX7_hasLoaf_0 rfl rfl ?_
  refine xr_if_lt B (tgt := 16) dX7_hasLoaf_1 (by decide) hf (fun _ hf => ?_) (fun _ hf => ?_)
  · refine xr_iconst B (v := 0) dX7_hasLoaf_16 (by decide) ?_
    obtain rfl := Option.some.inj hf
    exact RR _ _ _ (by decide) dX7_hasLoaf_17 rfl
  · refine xr_iload_n B dX7_hasLoaf_4 rfl rfl ?_
    refine xr_aload_n B dX7_hasLoaf_5 rfl rfl ?_
    refine xr_getI B xg_X7_35 xh_9 rfl dX7_hasLoaf_6 ?_
    refine xr_ic_ge B (tgt := 16) dX7_hasLoaf_9 (by decide) hf (fun _ hf => ?_) (fun _ hf => ?_)
    · refine xr_iconst B (v := 0) dX7_hasLoaf_16 (by decide) ?_
      obtain rfl := Option.some.inj hf
      exact RR _ _ _ (by decide) dX7_hasLoaf_17 rfl
    · refine xr_iconst B (v := 1) dX7_hasLoaf_12 (by decide) ?_
      refine xr_goto B (tgt := 17) dX7_hasLoaf_13 (by decide) ?_
      obtain rfl := Option.some.inj hf
      exact RR _ _ _ (by decide) dX7_hasLoaf_17 rfl

noncomputable def xf_X7_clear (σ : xr_S) : Option xr_S := xr_pf σ 3 0 0 (fun s1 => xr_pf s1 3 1 0 (fun s2 => xr_pf s2 3 2 0 (fun s3 => xr_pf s3 3 3 0 (fun s4 => xr_pf s4 3 4 0 (fun s5 => (xf_X9_clear s5 4).bind (fun s6 => some s6))))))
set_option maxRecDepth 100000 in
set_option maxHeartbeats 4000000 in
theorem xc_X7_clear (l : Launch) (D : va_G) (ad : Nat → Nat) (ca : Nat → ClassId) (σ : xr_S) (q : xr_S) (hf : xf_X7_clear σ = some q) : xr_M l D ad ca yX7_clear cX7_clear 1 none 2 43 [.ref (ad 3)] σ none q := by
  refine xr_openV [some (.ref (ad 3))] xm_X7_clear (Nat.le_of_ble_eq_true rfl) rfl (fun J B RR => ?_)
  unfold xf_X7_clear at hf
  refine xr_aload_n B dX7_clear_0 rfl rfl ?_
  refine xr_iconst B (v := 0) dX7_clear_1 (by decide) ?_
  refine xq_put B xp_X7_28 rfl rfl xh_3 rfl dX7_clear_2 hf (fun s1 hf => ?_)
  refine xr_aload_n B dX7_clear_5 rfl rfl ?_
  refine xr_iconst B (v := 0) dX7_clear_6 (by decide) ?_
  refine xq_put B xp_X7_38 rfl rfl xh_3 rfl dX7_clear_7 hf (fun s2 hf => ?_)
  refine xr_aload_n B dX7_clear_10 rfl rfl ?_
  refine xr_iconst B (v := 0) dX7_clear_11 (by decide) ?_
  refine xq_put B xp_X7_32 rfl rfl xh_3 rfl dX7_clear_12 hf (fun s3 hf => ?_)
  refine xr_aload_n B dX7_clear_15 rfl rfl ?_
  refine xr_iconst B (v := 0) dX7_clear_16 (by decide) ?_
  refine xq_put B xp_X7_35 rfl rfl xh_3 rfl dX7_clear_17 hf (fun s4 hf => ?_)
  refine xr_aload_n B dX7_clear_20 rfl rfl ?_
  refine xr_iconst B (v := 0) dX7_clear_21 (by decide) ?_
  refine xq_put B xp_X7_41 rfl rfl xh_3 rfl dX7_clear_22 hf (fun s5 hf => ?_)
  refine xr_aload_n B dX7_clear_25 rfl rfl ?_
  refine xr_getR B xg_X7_12 xh_3 rfl dX7_clear_26 ?_
  refine xr_cVv B (rest := []) [] xm_X9_clear xv_X7_44 (fun q hq => xc_X9_clear l D ad ca s5 4 ⟨xh_4, xh_5⟩ q hq) xh_4 rfl rfl (by decide) rfl (Nat.le_of_ble_eq_true rfl) dX7_clear_29 hf (fun s6 hf => ?_)
  obtain rfl := Option.some.inj hf
  exact RR _ _ dX7_clear_32 rfl

noncomputable def xf_X7_become (σ : xr_S) : Option xr_S := xr_pf σ 9 0 (σ.1 3 0) (fun s1 => xr_pf s1 9 1 (s1.1 3 1) (fun s2 => xr_pf s2 9 2 (s2.1 3 2) (fun s3 => xr_pf s3 9 3 (s3.1 3 3) (fun s4 => xr_pf s4 9 4 (s4.1 3 4) (fun s5 => (xf_X9_become s5 10 4).bind (fun s6 => xr_cp s6 6 12 7 7 0 0 7 (fun s7 => xr_cp s7 7 13 7 7 0 0 7 (fun s8 => xr_cp s8 8 14 7 7 0 0 7 (fun s9 => some s9)))))))))
set_option maxRecDepth 100000 in
set_option maxHeartbeats 4000000 in
theorem xc_X7_become (l : Launch) (D : va_G) (ad : Nat → Nat) (ca : Nat → ClassId) (σ : xr_S) (q : xr_S) (hf : xf_X7_become σ = some q) : xr_M l D ad ca yX7_become cX7_become 2 none 2 47 [.ref (ad 9), .ref (ad 3)] σ none q := by
  refine xr_openV [some (.ref (ad 9)), some (.ref (ad 3))] xm_X7_become (Nat.le_of_ble_eq_true rfl) rfl (fun J B RR => ?_)
  unfold xf_X7_become at hf
  refine xr_aload_n B dX7_become_0 rfl rfl ?_
  refine xr_aload_n B dX7_become_1 rfl rfl ?_
  refine xr_getI B xg_X7_28 xh_3 rfl dX7_become_2 ?_
  refine xq_put B xp_X7_28 rfl rfl xh_9 rfl dX7_become_5 hf (fun s1 hf => ?_)
  refine xr_aload_n B dX7_become_8 rfl rfl ?_
  refine xr_aload_n B dX7_become_9 rfl rfl ?_
  refine xr_getI B xg_X7_38 xh_3 rfl dX7_become_10 ?_
  refine xq_put B xp_X7_38 rfl rfl xh_9 rfl dX7_become_13 hf (fun s2 hf => ?_)
  refine xr_aload_n B dX7_become_16 rfl rfl ?_
  refine xr_aload_n B dX7_become_17 rfl rfl ?_
  refine xr_getI B xg_X7_32 xh_3 rfl dX7_become_18 ?_
  refine xq_put B xp_X7_32 rfl rfl xh_9 rfl dX7_become_21 hf (fun s3 hf => ?_)
  refine xr_aload_n B dX7_become_24 rfl rfl ?_
  refine xr_aload_n B dX7_become_25 rfl rfl ?_
  refine xr_getI B xg_X7_35 xh_3 rfl dX7_become_26 ?_
  refine xq_put B xp_X7_35 rfl rfl xh_9 rfl dX7_become_29 hf (fun s4 hf => ?_)
  refine xr_aload_n B dX7_become_32 rfl rfl ?_
  refine xr_aload_n B dX7_become_33 rfl rfl ?_
  refine xr_getI B xg_X7_41 xh_3 rfl dX7_become_34 ?_
  refine xq_put B xp_X7_41 rfl rfl xh_9 rfl dX7_become_37 hf (fun s5 hf => ?_)
  refine xr_aload_n B dX7_become_40 rfl rfl ?_
  refine xr_getR B xg_X7_12 xh_9 rfl dX7_become_41 ?_
  refine xr_aload_n B dX7_become_44 rfl rfl ?_
  refine xr_getR B xg_X7_12 xh_3 rfl dX7_become_45 ?_
  refine xr_cVv B (rest := []) [.ref (ad 4)] xm_X9_become xv_X7_47 (fun q hq => xc_X9_become l D ad ca s5 10 4 ⟨xh_10, xh_11⟩ ⟨xh_4, xh_5⟩ q hq) xh_10 rfl rfl (by decide) rfl (Nat.le_of_ble_eq_true rfl) dX7_become_48 hf (fun s6 hf => ?_)
  refine xr_aload_n B dX7_become_51 rfl rfl ?_
  refine xr_getR B xg_X7_18 xh_3 rfl dX7_become_52 ?_
  refine xr_iconst B (v := 0) dX7_become_55 (by decide) ?_
  refine xr_aload_n B dX7_become_56 rfl rfl ?_
  refine xr_getR B xg_X7_18 xh_9 rfl dX7_become_57 ?_
  refine xr_iconst B (v := 0) dX7_become_60 (by decide) ?_
  refine xr_bipush B (v := 7) dX7_become_61 (by decide) ?_
  refine xq_copy B xa_X7_51 xh_6 xh_12 (by decide) (by decide) (Nat.le_of_ble_eq_true rfl) dX7_become_63 hf (fun s7 hf => ?_)
  refine xr_aload_n B dX7_become_66 rfl rfl ?_
  refine xr_getR B xg_X7_22 xh_3 rfl dX7_become_67 ?_
  refine xr_iconst B (v := 0) dX7_become_70 (by decide) ?_
  refine xr_aload_n B dX7_become_71 rfl rfl ?_
  refine xr_getR B xg_X7_22 xh_9 rfl dX7_become_72 ?_
  refine xr_iconst B (v := 0) dX7_become_75 (by decide) ?_
  refine xr_bipush B (v := 7) dX7_become_76 (by decide) ?_
  refine xq_copy B xa_X7_51 xh_7 xh_13 (by decide) (by decide) (Nat.le_of_ble_eq_true rfl) dX7_become_78 hf (fun s8 hf => ?_)
  refine xr_aload_n B dX7_become_81 rfl rfl ?_
  refine xr_getR B xg_X7_25 xh_3 rfl dX7_become_82 ?_
  refine xr_iconst B (v := 0) dX7_become_85 (by decide) ?_
  refine xr_aload_n B dX7_become_86 rfl rfl ?_
  refine xr_getR B xg_X7_25 xh_9 rfl dX7_become_87 ?_
  refine xr_iconst B (v := 0) dX7_become_90 (by decide) ?_
  refine xr_bipush B (v := 7) dX7_become_91 (by decide) ?_
  refine xq_copy B xa_X7_51 xh_8 xh_14 (by decide) (by decide) (Nat.le_of_ble_eq_true rfl) dX7_become_93 hf (fun s9 hf => ?_)
  obtain rfl := Option.some.inj hf
  exact RR _ _ dX7_become_96 rfl
