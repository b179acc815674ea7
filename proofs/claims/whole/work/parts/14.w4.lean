noncomputable def xf_X6_add (σ : xr_S) (a1 : Int32) : Option (Int32 × xr_S) := if (σ.1 1 0) < 240 then (xr_st σ 2 240 (σ.1 1 0) a1 (fun s1 => xr_pf s1 1 0 ((s1.1 1 0) + 1) (fun s2 => some (1, s2)))) else (some (0, σ))
set_option maxRecDepth 100000 in
set_option maxHeartbeats 4000000 in
theorem xc_X6_add (l : Launch) (D : va_G) (ad : Nat → Nat) (ca : Nat → ClassId) (σ : xr_S) (a1 : Int32) (q : (Int32 × xr_S)) (hf : xf_X6_add σ a1 = some q) : xr_M l D ad ca yX6_add cX6_add 2 (some .boolean) 0 0 [.ref (ad 1), .int a1] σ (some (.int q.1)) q.2 := by
  refine xr_openZ [some (.ref (ad 1)), some (.int a1)] xm_X6_add (Nat.le_of_ble_eq_true rfl) rfl (fun J B RR => ?_)
  unfold xf_X6_add at hf
  refine xr_aload_n B dX6_add_0 rfl rfl ?_
  refine xr_getI B xg_X6_26 xh_1 rfl dX6_add_1 ?_
  refine xr_sipush B (v := 240) dX6_add_4 (by decide) ?_
  refine xr_ic_lt B (tgt := 12) dX6_add_7 (by decide) hf (fun _ hf => ?_) (fun _ hf => ?_)
  · refine xr_aload_n B dX6_add_12 rfl rfl ?_
    refine xr_getR B xg_X6_22 xh_1 rfl dX6_add_13 ?_
    refine xr_aload_n B dX6_add_16 rfl rfl ?_
    refine xr_getI B xg_X6_26 xh_1 rfl dX6_add_17 ?_
    refine xr_iload_n B dX6_add_20 rfl rfl ?_
    refine xq_iast B xh_2 dX6_add_21 hf (fun s1 hf => ?_)
    refine xr_aload_n B dX6_add_22 rfl rfl ?_
    refine xr_dup B dX6_add_23 rfl ?_
    refine xr_getI B xg_X6_26 xh_1 rfl dX6_add_24 ?_
    refine xr_iconst B (v := 1) dX6_add_27 (by decide) ?_
    refine xr_iadd B dX6_add_28 ?_
    refine xq_put B xp_X6_26 rfl rfl xh_1 rfl dX6_add_29 hf (fun s2 hf => ?_)
    refine xr_iconst B (v := 1) dX6_add_32 (by decide) ?_
    obtain rfl := Option.some.inj hf
    exact RR _ _ _ (by decide) dX6_add_33 rfl
  · refine xr_iconst B (v := 0) dX6_add_10 (by decide) ?_
    obtain rfl := Option.some.inj hf
    exact RR _ _ _ (by decide) dX6_add_11 rfl

noncomputable def xf_X6_skipBlanks_L0  (K4 : xr_S → Option xr_S) (t1 : xr_S) (rec2 : xr_S → Option xr_S) : Option xr_S := if (t1.1 1 0) ≤ (t1.1 1 4) then (K4 t1) else (xr_ld t1 2 240 (t1.1 1 4) (fun v5 => if v5 = 32 then (xr_pf t1 1 4 ((t1.1 1 4) + 1) (fun s6 => rec2 s6)) else (K4 t1)))
noncomputable def xf_X6_skipBlanks (σ : xr_S) : Option xr_S := xr_lw (xf_X6_skipBlanks_L0 (fun (e3 : xr_S) => some e3)) σ
set_option maxRecDepth 100000 in
set_option maxHeartbeats 4000000 in
theorem xc_X6_skipBlanks (l : Launch) (D : va_G) (ad : Nat → Nat) (ca : Nat → ClassId) (σ : xr_S) (q : xr_S) (hf : xf_X6_skipBlanks σ = some q) : xr_M l D ad ca yX6_skipBlanks cX6_skipBlanks 1 none 0 0 [.ref (ad 1)] σ none q := by
  refine xr_openV [some (.ref (ad 1))] xm_X6_skipBlanks (Nat.le_of_ble_eq_true rfl) rfl (fun J B RR => ?_)
  unfold xf_X6_skipBlanks at hf
  refine xq_loop (fun (t1 : xr_S) => J 0 [some (.ref (ad 1))] [] t1) (fun (e3 : xr_S) => J 38 [none] [] e3) hf (fun e3 hf => ?_) (fun K4 hK4 t1 rec2 hrec2 hf => ?_)
  · obtain rfl := Option.some.inj hf
    exact RR _ _ dX6_skipBlanks_38 rfl
  · unfold xf_X6_skipBlanks_L0 at hf
    refine xr_aload_n B dX6_skipBlanks_0 rfl rfl ?_
    refine xr_getI B xg_X6_32 xh_1 rfl dX6_skipBlanks_1 ?_
    refine xr_aload_n B dX6_skipBlanks_4 rfl rfl ?_
    refine xr_getI B xg_X6_26 xh_1 rfl dX6_skipBlanks_5 ?_
    refine xr_ic_ge B (tgt := 38) dX6_skipBlanks_8 (by decide) hf (fun _ hf => ?_) (fun _ hf => ?_)
    · refine xr_forget B (lv2 := [none]) trivial ?_
      exact hK4 t1 hf
    · refine xr_aload_n B dX6_skipBlanks_11 rfl rfl ?_
      refine xr_getR B xg_X6_22 xh_1 rfl dX6_skipBlanks_12 ?_
      refine xr_aload_n B dX6_skipBlanks_15 rfl rfl ?_
      refine xr_getI B xg_X6_32 xh_1 rfl dX6_skipBlanks_16 ?_
      refine xq_iald B xh_2 dX6_skipBlanks_19 hf (fun v5 hf => ?_)
      refine xr_bipush B (v := 32) dX6_skipBlanks_20 (by decide) ?_
      refine xr_ic_ne B (tgt := 38) dX6_skipBlanks_22 (by decide) hf (fun _ hf => ?_) (fun _ hf => ?_)
      · refine xr_aload_n B dX6_skipBlanks_25 rfl rfl ?_
        refine xr_dup B dX6_skipBlanks_26 rfl ?_
        refine xr_getI B xg_X6_32 xh_1 rfl dX6_skipBlanks_27 ?_
        refine xr_iconst B (v := 1) dX6_skipBlanks_30 (by decide) ?_
        refine xr_iadd B dX6_skipBlanks_31 ?_
        refine xq_put B xp_X6_32 rfl rfl xh_1 rfl dX6_skipBlanks_32 hf (fun s6 hf => ?_)
        refine xr_goto B (tgt := 0) dX6_skipBlanks_35 (by decide) ?_
        exact hrec2 s6 hf
      · refine xr_forget B (lv2 := [none]) trivial ?_
        exact hK4 t1 hf

noncomputable def xf_X6_fail (σ : xr_S) (a1 : Int32) (a2 : Int32) : Option xr_S := if (σ.1 1 5) = 0 then (xr_pf σ 1 5 a1 (fun s1 => xr_pf s1 1 1 a2 (fun s2 => some s2))) else (some σ)
set_option maxRecDepth 100000 in
set_option maxHeartbeats 4000000 in
theorem xc_X6_fail (l : Launch) (D : va_G) (ad : Nat → Nat) (ca : Nat → ClassId) (σ : xr_S) (a1 : Int32) (a2 : Int32) (q : xr_S) (hf : xf_X6_fail σ a1 a2 = some q) : xr_M l D ad ca yX6_fail cX6_fail 3 none 0 0 [.ref (ad 1), .int a1, .int a2] σ none q := by
  refine xr_openV [some (.ref (ad 1)), some (.int a1), some (.int a2)] xm_X6_fail (Nat.le_of_ble_eq_true rfl) rfl (fun J B RR => ?_)
  unfold xf_X6_fail at hf
  refine xr_aload_n B dX6_fail_0 rfl rfl ?_
  refine xr_getI B xg_X6_35 xh_1 rfl dX6_fail_1 ?_
  refine xr_if_ne B (tgt := 17) dX6_fail_4 (by decide) hf (fun _ hf => ?_) (fun _ hf => ?_)
  · refine xr_aload_n B dX6_fail_7 rfl rfl ?_
    refine xr_iload_n B dX6_fail_8 rfl rfl ?_
    refine xq_put B xp_X6_35 rfl rfl xh_1 rfl dX6_fail_9 hf (fun s1 hf => ?_)
    refine xr_aload_n B dX6_fail_12 rfl rfl ?_
    refine xr_iload_n B dX6_fail_13 rfl rfl ?_
    refine xq_put B xp_X6_9 rfl rfl xh_1 rfl dX6_fail_14 hf (fun s2 hf => ?_)
    obtain rfl := Option.some.inj hf
    exact RR _ _ dX6_fail_17 rfl
  · obtain rfl := Option.some.inj hf
    exact RR _ _ dX6_fail_17 rfl

noncomputable def xf_X6_passWord (σ : xr_S) (a1 : Int32) : Option xr_S := xr_jn (fun (w1 : xr_S) => xr_pf w1 1 4 ((w1.1 1 4) + 1) (fun s3 => some s3)) (fun j2 => if a1 = 0 then ((xf_X6_fail σ 3 (σ.1 1 4)).bind (fun s4 => j2 s4)) else (j2 σ))
set_option maxRecDepth 100000 in
set_option maxHeartbeats 4000000 in
theorem xc_X6_passWord (l : Launch) (D : va_G) (ad : Nat → Nat) (ca : Nat → ClassId) (σ : xr_S) (a1 : Int32) (q : xr_S) (hf : xf_X6_passWord σ a1 = some q) : xr_M l D ad ca yX6_passWord cX6_passWord 2 none 1 22 [.ref (ad 1), .int a1] σ none q := by
  refine xr_openV [some (.ref (ad 1)), some (.int a1)] xm_X6_passWord (Nat.le_of_ble_eq_true rfl) rfl (fun J B RR => ?_)
  unfold xf_X6_passWord at hf
  refine xr_iload_n B dX6_passWord_0 rfl rfl ?_
  refine xr_meet (fun (w1 : xr_S) => J 13 [some (.ref (ad 1)), none] [] w1) hf (fun w1 hf => ?_) (fun j2 hj2 hf => ?_)
  · refine xr_aload_n B dX6_passWord_13 rfl rfl ?_
    refine xr_dup B dX6_passWord_14 rfl ?_
    refine xr_getI B xg_X6_32 xh_1 rfl dX6_passWord_15 ?_
    refine xr_iconst B (v := 1) dX6_passWord_18 (by decide) ?_
    refine xr_iadd B dX6_passWord_19 ?_
    refine xq_put B xp_X6_32 rfl rfl xh_1 rfl dX6_passWord_20 hf (fun s3 hf => ?_)
    obtain rfl := Option.some.inj hf
    exact RR _ _ dX6_passWord_23 rfl
  · refine xr_if_ne B (tgt := 13) dX6_passWord_1 (by decide) hf (fun _ hf => ?_) (fun _ hf => ?_)
    · refine xr_aload_n B dX6_passWord_4 rfl rfl ?_
      refine xr_iconst B (v := 3) dX6_passWord_5 (by decide) ?_
      refine xr_aload_n B dX6_passWord_6 rfl rfl ?_
      refine xr_getI B xg_X6_32 xh_1 rfl dX6_passWord_7 ?_
      refine xr_cVv B (rest := []) [.int 3, .int (σ.1 1 4)] xm_X6_fail xv_X6_52 (fun q hq => xc_X6_fail l D ad ca σ 3 (σ.1 1 4) q hq) xh_1 rfl rfl (by decide) rfl (Nat.le_of_ble_eq_true rfl) dX6_passWord_10 hf (fun s4 hf => ?_)
      refine xr_forget B (lv2 := [some (.ref (ad 1)), none]) ⟨rfl, trivial⟩ ?_
      exact hj2 s4 hf
    · refine xr_forget B (lv2 := [some (.ref (ad 1)), none]) ⟨rfl, trivial⟩ ?_
      exact hj2 σ hf

noncomputable def xf_X6_isFigure (σ : xr_S) (a1 : Int32) : Option Int32 := if a1 < 48 then (some 0) else (if 57 < a1 then (some 0) else (some 1))
set_option maxRecDepth 100000 in
set_option maxHeartbeats 4000000 in
theorem xc_X6_isFigure (l : Launch) (D : va_G) (ad : Nat → Nat) (ca : Nat → ClassId) (σ : xr_S) (a1 : Int32) (q : Int32) (hf : xf_X6_isFigure σ a1 = some q) : xr_M l D ad ca yX6_isFigure cX6_isFigure 1 (some .boolean) 0 0 [.int a1] σ (some (.int q)) σ := by
  refine xr_openZ [some (.int a1)] xm_X6_isFigure (Nat.le_of_ble_eq_true rfl) rfl (fun J B RR => ?_)
  unfold xf_X6_isFigure at hf
  refine xr_iload_n B dX6_isFigure_0 rfl rfl ?_
  refine xr_bipush B (v := 48) dX6_isFigure_1 (by decide) ?_
  refine xr_ic_lt B (tgt := 16) dX6_isFigure_3 (by decide) hf (fun _ hf => ?_) (fun _ hf => ?_)
  · refine xr_iconst B (v := 0) dX6_isFigure_16 (by decide) ?_
    obtain rfl := Option.some.inj hf
    exact RR _ _ _ (by decide) dX6_isFigure_17 rfl
  · refine xr_iload_n B dX6_isFigure_6 rfl rfl ?_
    refine xr_bipush B (v := 57) dX6_isFigure_7 (by decide) ?_
    refine xr_ic_gt B (tgt := 16) dX6_isFigure_9 (by decide) hf (fun _ hf => ?_) (fun _ hf => ?_)
    · refine xr_iconst B (v := 0) dX6_isFigure_16 (by decide) ?_
      obtain rfl := Option.some.inj hf
      exact RR _ _ _ (by decide) dX6_isFigure_17 rfl
    · refine xr_iconst B (v := 1) dX6_isFigure_12 (by decide) ?_
      refine xr_goto B (tgt := 17) dX6_isFigure_13 (by decide) ?_
      obtain rfl := Option.some.inj hf
      exact RR _ _ _ (by decide) dX6_isFigure_17 rfl

noncomputable def xf_X6_readNumber_L23  (K6 : (Int32 × xr_S) → Option (Int32 × xr_S)) (t3 : (Int32 × xr_S)) (rec4 : (Int32 × xr_S) → Option (Int32 × xr_S)) : Option (Int32 × xr_S) := if (t3.2.1 1 0) ≤ (t3.2.1 1 4) then (K6 (t3.1, t3.2)) else (xr_ld t3.2 2 240 (t3.2.1 1 4) (fun v7 => (xf_X6_isFigure t3.2 v7).bind (fun v8 => if v8 = 0 then (K6 (t3.1, t3.2)) else (xr_jn (fun (w9 : Int32) => xr_pf t3.2 1 4 ((t3.2.1 1 4) + 1) (fun s11 => rec4 (w9, s11))) (fun j10 => if 3 ≤ ((t3.2.1 1 4) - (t3.2.1 1 6)) then (j10 t3.1) else (xr_ld t3.2 2 240 (t3.2.1 1 4) (fun v12 => xr_v ((((t3.1 * 10) + v12) - 48)) (fun v13 => j10 v13))))))))
noncomputable def xf_X6_readNumber (σ : xr_S) (a1 : Int32) (a2 : Int32) : Option (Int32 × xr_S) := if (σ.1 1 5) = 0 then ((xf_X6_skipBlanks σ).bind (fun s1 => xr_pf s1 1 6 (s1.1 1 4) (fun s2 => xr_lw (xf_X6_readNumber_L23 (fun (e5 : (Int32 × xr_S)) => xr_v (((e5.2.1 1 4) - (e5.2.1 1 6))) (fun v14 => if v14 = 0 then ((xf_X6_fail e5.2 1 (e5.2.1 1 6)).bind (fun s15 => some (e5.1, s15))) else (xr_jn (fun (w16 : Unit) => (xf_X6_fail e5.2 2 (e5.2.1 1 6)).bind (fun s18 => some (e5.1, s18))) (fun j17 => if 3 < v14 then (j17 ()) else (if e5.1 < a1 then (j17 ()) else (if e5.1 ≤ a2 then (some (e5.1, e5.2)) else (j17 ())))))))) (0, s2)))) else (some (0, σ))
set_option maxRecDepth 100000 in
set_option maxHeartbeats 4000000 in
theorem xc_X6_readNumber (l : Launch) (D : va_G) (ad : Nat → Nat) (ca : Nat → ClassId) (σ : xr_S) (a1 : Int32) (a2 : Int32) (q : (Int32 × xr_S)) (hf : xf_X6_readNumber σ a1 a2 = some q) : xr_M l D ad ca yX6_readNumber cX6_readNumber 5 (some .int) 1 22 [.ref (ad 1), .int a1, .int a2] σ (some (.int q.1)) q.2 := by
  refine xr_openI [some (.ref (ad 1)), some (.int a1), some (.int a2), none, none] xm_X6_readNumber (Nat.le_of_ble_eq_true rfl) rfl (fun J B RR => ?_)
  unfold xf_X6_readNumber at hf
  refine xr_aload_n B dX6_readNumber_0 rfl rfl ?_
  refine xr_getI B xg_X6_35 xh_1 rfl dX6_readNumber_1 ?_
  refine xr_if_eq B (tgt := 9) dX6_readNumber_4 (by decide) hf (fun _ hf => ?_) (fun _ hf => ?_)
  · refine xr_aload_n B dX6_readNumber_9 rfl rfl ?_
    refine xr_cVv B (rest := []) [] xm_X6_skipBlanks xv_X6_42 (fun q hq => xc_X6_skipBlanks l D ad ca σ q hq) xh_1 rfl rfl (by decide) rfl (Nat.le_of_ble_eq_true rfl) dX6_readNumber_10 hf (fun s1 hf => ?_)
    refine xr_aload_n B dX6_readNumber_13 rfl rfl ?_
    refine xr_aload_n B dX6_readNumber_14 rfl rfl ?_
    refine xr_getI B xg_X6_32 xh_1 rfl dX6_readNumber_15 ?_
    refine xq_put B xp_X6_99 rfl rfl xh_1 rfl dX6_readNumber_18 hf (fun s2 hf => ?_)
    refine xr_iconst B (v := 0) dX6_readNumber_21 (by decide) ?_
    refine xr_istore_n B (lv2 := [some (.ref (ad 1)), some (.int a1), some (.int a2), some (.int 0), none]) dX6_readNumber_22 rfl (by decide) rfl ?_
    refine xq_loop (fun (t3 : (Int32 × xr_S)) => J 23 [some (.ref (ad 1)), some (.int a1), some (.int a2), some (.int t3.1), none] [] t3.2) (fun (e5 : (Int32 × xr_S)) => J 93 [some (.ref (ad 1)), some (.int a1), some (.int a2), some (.int e5.1), none] [] e5.2) hf (fun e5 hf => ?_) (fun K6 hK6 t3 rec4 hrec4 hf => ?_)
    · refine xr_aload_n B dX6_readNumber_93 rfl rfl ?_
      refine xr_getI B xg_X6_32 xh_1 rfl dX6_readNumber_94 ?_
      refine xr_aload_n B dX6_readNumber_97 rfl rfl ?_
      refine xr_getI B xg_X6_99 xh_1 rfl dX6_readNumber_98 ?_
      refine xr_isub B dX6_readNumber_101 ?_
      refine xr_top _ hf (fun v14 hf => ?_)
      refine xr_istore B (lv2 := [some (.ref (ad 1)), some (.int a1), some (.int a2), some (.int e5.1), some (.int v14)]) dX6_readNumber_102 (by decide) rfl ?_
      refine xr_iload B dX6_readNumber_104 rfl ?_
      refine xr_if_ne B (tgt := 121) dX6_readNumber_106 (by decide) hf (fun _ hf => ?_) (fun _ hf => ?_)
      · refine xr_aload_n B dX6_readNumber_109 rfl rfl ?_
        refine xr_iconst B (v := 1) dX6_readNumber_110 (by decide) ?_
        refine xr_aload_n B dX6_readNumber_111 rfl rfl ?_
        refine xr_getI B xg_X6_99 xh_1 rfl dX6_readNumber_112 ?_
        refine xr_cVv B (rest := []) [.int 1, .int (e5.2.1 1 6)] xm_X6_fail xv_X6_52 (fun q hq => xc_X6_fail l D ad ca e5.2 1 (e5.2.1 1 6) q hq) xh_1 rfl rfl (by decide) rfl (Nat.le_of_ble_eq_true rfl) dX6_readNumber_115 hf (fun s15 hf => ?_)
        refine xr_goto B (tgt := 146) dX6_readNumber_118 (by decide) ?_
        refine xr_iload_n B dX6_readNumber_146 rfl rfl ?_
        obtain rfl := Option.some.inj hf
        exact RR _ _ _ dX6_readNumber_147 rfl
      · refine xr_iload B dX6_readNumber_121 rfl ?_
        refine xr_iconst B (v := 3) dX6_readNumber_123 (by decide) ?_
        refine xr_meet (fun (w16 : Unit) => J 137 [some (.ref (ad 1)), none, none, some (.int e5.1), none] [] e5.2) hf (fun w16 hf => ?_) (fun j17 hj17 hf => ?_)
        · refine xr_aload_n B dX6_readNumber_137 rfl rfl ?_
          refine xr_iconst B (v := 2) dX6_readNumber_138 (by decide) ?_
          refine xr_aload_n B dX6_readNumber_139 rfl rfl ?_
          refine xr_getI B xg_X6_99 xh_1 rfl dX6_readNumber_140 ?_
          refine xr_cVv B (rest := []) [.int 2, .int (e5.2.1 1 6)] xm_X6_fail xv_X6_52 (fun q hq => xc_X6_fail l D ad ca e5.2 2 (e5.2.1 1 6) q hq) xh_1 rfl rfl (by decide) rfl (Nat.le_of_ble_eq_true rfl) dX6_readNumber_143 hf (fun s18 hf => ?_)
          refine xr_iload_n B dX6_readNumber_146 rfl rfl ?_
          obtain rfl := Option.some.inj hf
          exact RR _ _ _ dX6_readNumber_147 rfl
        · refine xr_ic_gt B (tgt := 137) dX6_readNumber_124 (by decide) hf (fun _ hf => ?_) (fun _ hf => ?_)
          · refine xr_forget B (lv2 := [some (.ref (ad 1)), none, none, some (.int e5.1), none]) ⟨rfl, ⟨rfl, trivial⟩⟩ ?_
            exact hj17 () hf
          · refine xr_iload_n B dX6_readNumber_127 rfl rfl ?_
            refine xr_iload_n B dX6_readNumber_128 rfl rfl ?_
            refine xr_ic_lt B (tgt := 137) dX6_readNumber_129 (by decide) hf (fun _ hf => ?_) (fun _ hf => ?_)
            · refine xr_forget B (lv2 := [some (.ref (ad 1)), none, none, some (.int e5.1), none]) ⟨rfl, ⟨rfl, trivial⟩⟩ ?_
              exact hj17 () hf
            · refine xr_iload_n B dX6_readNumber_132 rfl rfl ?_
              refine xr_iload_n B dX6_readNumber_133 rfl rfl ?_
              refine xr_ic_le B (tgt := 146) dX6_readNumber_134 (by decide) hf (fun _ hf => ?_) (fun _ hf => ?_)
              · refine xr_iload_n B dX6_readNumber_146 rfl rfl ?_
                obtain rfl := Option.some.inj hf
                exact RR _ _ _ dX6_readNumber_147 rfl
              · refine xr_forget B (lv2 := [some (.ref (ad 1)), none, none, some (.int e5.1), none]) ⟨rfl, ⟨rfl, trivial⟩⟩ ?_
                exact hj17 () hf
    · have hrec4 : ∀ (b1 : Int32) (b2 : xr_S), rec4 (b1, b2) = some q → J 23 [some (.ref (ad 1)), some (.int a1), some (.int a2), some (.int b1), none] [] b2 := fun b1 b2 h => hrec4 (b1, b2) h
      have hK6 : ∀ (b1 : Int32) (b2 : xr_S), K6 (b1, b2) = some q → J 93 [some (.ref (ad 1)), some (.int a1), some (.int a2), some (.int b1), none] [] b2 := fun b1 b2 h => hK6 (b1, b2) h
      unfold xf_X6_readNumber_L23 at hf
      refine xr_aload_n B dX6_readNumber_23 rfl rfl ?_
      refine xr_getI B xg_X6_32 xh_1 rfl dX6_readNumber_24 ?_
      refine xr_aload_n B dX6_readNumber_27 rfl rfl ?_
      refine xr_getI B xg_X6_26 xh_1 rfl dX6_readNumber_28 ?_
      refine xr_ic_ge B (tgt := 93) dX6_readNumber_31 (by decide) hf (fun _ hf => ?_) (fun _ hf => ?_)
      · exact hK6 t3.1 t3.2 hf
      · refine xr_aload_n B dX6_readNumber_34 rfl rfl ?_
        refine xr_getR B xg_X6_22 xh_1 rfl dX6_readNumber_35 ?_
        refine xr_aload_n B dX6_readNumber_38 rfl rfl ?_
        refine xr_getI B xg_X6_32 xh_1 rfl dX6_readNumber_39 ?_
        refine xq_iald B xh_2 dX6_readNumber_42 hf (fun v7 hf => ?_)
        refine xr_cSi B (rest := []) [.int v7] xm_X6_isFigure xs_X6_117 (fun q hq => xc_X6_isFigure l D ad ca t3.2 v7 q hq) rfl (by decide) rfl (Nat.le_of_ble_eq_true rfl) dX6_readNumber_43 hf (fun v8 hf => ?_)
        refine xr_if_eq B (tgt := 93) dX6_readNumber_46 (by decide) hf (fun _ hf => ?_) (fun _ hf => ?_)
        · exact hK6 t3.1 t3.2 hf
        · refine xr_aload_n B dX6_readNumber_49 rfl rfl ?_
          refine xr_getI B xg_X6_32 xh_1 rfl dX6_readNumber_50 ?_
          refine xr_aload_n B dX6_readNumber_53 rfl rfl ?_
          refine xr_getI B xg_X6_99 xh_1 rfl dX6_readNumber_54 ?_
          refine xr_isub B dX6_readNumber_57 ?_
          refine xr_iconst B (v := 3) dX6_readNumber_58 (by decide) ?_
          refine xr_meet (fun (w9 : Int32) => J 80 [some (.ref (ad 1)), some (.int a1), some (.int a2), some (.int w9), none] [] t3.2) hf (fun w9 hf => ?_) (fun j10 hj10 hf => ?_)
          · refine xr_aload_n B dX6_readNumber_80 rfl rfl ?_
            refine xr_dup B dX6_readNumber_81 rfl ?_
            refine xr_getI B xg_X6_32 xh_1 rfl dX6_readNumber_82 ?_
            refine xr_iconst B (v := 1) dX6_readNumber_85 (by decide) ?_
            refine xr_iadd B dX6_readNumber_86 ?_
            refine xq_put B xp_X6_32 rfl rfl xh_1 rfl dX6_readNumber_87 hf (fun s11 hf => ?_)
            refine xr_goto B (tgt := 23) dX6_readNumber_90 (by decide) ?_
            exact hrec4 w9 s11 hf
          · refine xr_ic_ge B (tgt := 80) dX6_readNumber_59 (by decide) hf (fun _ hf => ?_) (fun _ hf => ?_)
            · exact hj10 t3.1 hf
            · refine xr_iload_n B dX6_readNumber_62 rfl rfl ?_
              refine xr_bipush B (v := 10) dX6_readNumber_63 (by decide) ?_
              refine xr_imul B dX6_readNumber_65 ?_
              refine xr_aload_n B dX6_readNumber_66 rfl rfl ?_
              refine xr_getR B xg_X6_22 xh_1 rfl dX6_readNumber_67 ?_
              refine xr_aload_n B dX6_readNumber_70 rfl rfl ?_
              refine xr_getI B xg_X6_32 xh_1 rfl dX6_readNumber_71 ?_
              refine xq_iald B xh_2 dX6_readNumber_74 hf (fun v12 hf => ?_)
              refine xr_iadd B dX6_readNumber_75 ?_
              refine xr_bipush B (v := 48) dX6_readNumber_76 (by decide) ?_
              refine xr_isub B dX6_readNumber_78 ?_
              refine xr_top _ hf (fun v13 hf => ?_)
              refine xr_istore_n B (lv2 := [some (.ref (ad 1)), some (.int a1), some (.int a2), some (.int v13), none]) dX6_readNumber_79 rfl (by decide) rfl ?_
              exact hj10 v13 hf
  · refine xr_iconst B (v := 0) dX6_readNumber_7 (by decide) ?_
    obtain rfl := Option.some.inj hf
    exact RR _ _ _ dX6_readNumber_8 rfl

noncomputable def xf_X6_readSign (σ : xr_S) (a1 : Int32) : Option xr_S := if (σ.1 1 5) = 0 then ((xf_X6_skipBlanks σ).bind (fun s1 => xr_jn (fun (w2 : Unit) => (xf_X6_fail s1 1 (s1.1 1 4)).bind (fun s4 => some s4)) (fun j3 => if (s1.1 1 0) ≤ (s1.1 1 4) then (j3 ()) else (xr_ld s1 2 240 (s1.1 1 4) (fun v5 => if v5 = a1 then (xr_pf s1 1 4 ((s1.1 1 4) + 1) (fun s6 => some s6)) else (j3 ())))))) else (some σ)
set_option maxRecDepth 100000 in
set_option maxHeartbeats 4000000 in
theorem xc_X6_readSign (l : Launch) (D : va_G) (ad : Nat → Nat) (ca : Nat → ClassId) (σ : xr_S) (a1 : Int32) (q : xr_S) (hf : xf_X6_readSign σ a1 = some q) : xr_M l D ad ca yX6_readSign cX6_readSign 2 none 1 22 [.ref (ad 1), .int a1] σ none q := by
  refine xr_openV [some (.ref (ad 1)), some (.int a1)] xm_X6_readSign (Nat.le_of_ble_eq_true rfl) rfl (fun J B RR => ?_)
  unfold xf_X6_readSign at hf
  refine xr_aload_n B dX6_readSign_0 rfl rfl ?_
  refine xr_getI B xg_X6_35 xh_1 rfl dX6_readSign_1 ?_
  refine xr_if_eq B (tgt := 8) dX6_readSign_4 (by decide) hf (fun _ hf => ?_) (fun _ hf => ?_)
  · refine xr_aload_n B dX6_readSign_8 rfl rfl ?_
    refine xr_cVv B (rest := []) [] xm_X6_skipBlanks xv_X6_42 (fun q hq => xc_X6_skipBlanks l D ad ca σ q hq) xh_1 rfl rfl (by decide) rfl (Nat.le_of_ble_eq_true rfl) dX6_readSign_9 hf (fun s1 hf => ?_)
    refine xr_aload_n B dX6_readSign_12 rfl rfl ?_
    refine xr_getI B xg_X6_32 xh_1 rfl dX6_readSign_13 ?_
    refine xr_aload_n B dX6_readSign_16 rfl rfl ?_
    refine xr_getI B xg_X6_26 xh_1 rfl dX6_readSign_17 ?_
    refine xr_meet (fun (w2 : Unit) => J 49 [some (.ref (ad 1)), none] [] s1) hf (fun w2 hf => ?_) (fun j3 hj3 hf => ?_)
    · refine xr_aload_n B dX6_readSign_49 rfl rfl ?_
      refine xr_iconst B (v := 1) dX6_readSign_50 (by decide) ?_
      refine xr_aload_n B dX6_readSign_51 rfl rfl ?_
      refine xr_getI B xg_X6_32 xh_1 rfl dX6_readSign_52 ?_
      refine xr_cVv B (rest := []) [.int 1, .int (s1.1 1 4)] xm_X6_fail xv_X6_52 (fun q hq => xc_X6_fail l D ad ca s1 1 (s1.1 1 4) q hq) xh_1 rfl rfl (by decide) rfl (Nat.le_of_ble_eq_true rfl) dX6_readSign_55 hf (fun s4 hf => ?_)
      obtain rfl := Option.some.inj hf
      exact RR _ _ dX6_readSign_58 rfl
    · refine xr_ic_ge B (tgt := 49) dX6_readSign_20 (by decide) hf (fun _ hf => ?_) (fun _ hf => ?_)
      · refine xr_forget B (lv2 := [some (.ref (ad 1)), none]) ⟨rfl, trivial⟩ ?_
        exact hj3 () hf
      · refine xr_aload_n B dX6_readSign_23 rfl rfl ?_
        refine xr_getR B xg_X6_22 xh_1 rfl dX6_readSign_24 ?_
        refine xr_aload_n B dX6_readSign_27 rfl rfl ?_
        refine xr_getI B xg_X6_32 xh_1 rfl dX6_readSign_28 ?_
        refine xq_iald B xh_2 dX6_readSign_31 hf (fun v5 hf => ?_)
        refine xr_iload_n B dX6_readSign_32 rfl rfl ?_
        refine xr_ic_ne B (tgt := 49) dX6_readSign_33 (by decide) hf (fun _ hf => ?_) (fun _ hf => ?_)
        · refine xr_aload_n B dX6_readSign_36 rfl rfl ?_
          refine xr_dup B dX6_readSign_37 rfl ?_
          refine xr_getI B xg_X6_32 xh_1 rfl dX6_readSign_38 ?_
          refine xr_iconst B (v := 1) dX6_readSign_41 (by decide) ?_
          refine xr_iadd B dX6_readSign_42 ?_
          refine xq_put B xp_X6_32 rfl rfl xh_1 rfl dX6_readSign_43 hf (fun s6 hf => ?_)
          refine xr_goto B (tgt := 58) dX6_readSign_46 (by decide) ?_
          obtain rfl := Option.some.inj hf
          exact RR _ _ dX6_readSign_58 rfl
        · refine xr_forget B (lv2 := [some (.ref (ad 1)), none]) ⟨rfl, trivial⟩ ?_
          exact hj3 () hf
  · obtain rfl := Option.some.inj hf
    exact RR _ _ dX6_readSign_7 rfl

noncomputable def xf_X6_readDreams (σ : xr_S) : Option xr_S := xr_jn (fun (w1 : Int32) => (xf_X6_passWord σ w1).bind (fun s3 => (xf_X6_readNumber s3 2 5).bind (fun p4 => xr_pf p4.2 3 0 p4.1 (fun s5 => (xf_X6_readNumber s5 0 5).bind (fun p6 => xr_pf p6.2 3 1 p6.1 (fun s7 => (xf_X6_readSign s7 59).bind (fun s8 => some s8))))))) (fun j2 => if (σ.1 3 0) = 0 then (j2 1) else (j2 0))
set_option maxRecDepth 100000 in
set_option maxHeartbeats 4000000 in
theorem xc_X6_readDreams (l : Launch) (D : va_G) (ad : Nat → Nat) (ca : Nat → ClassId) (σ : xr_S) (q : xr_S) (hf : xf_X6_readDreams σ = some q) : xr_M l D ad ca yX6_readDreams cX6_readDreams 1 none 2 46 [.ref (ad 1)] σ none q := by
  refine xr_openV [some (.ref (ad 1))] xm_X6_readDreams (Nat.le_of_ble_eq_true rfl) rfl (fun J B RR => ?_)
  unfold xf_X6_readDreams at hf
  refine xr_aload_n B dX6_readDreams_0 rfl rfl ?_
  refine xr_aload_n B dX6_readDreams_1 rfl rfl ?_
  refine xr_getR B xg_X6_18 xh_1 rfl dX6_readDreams_2 ?_
  refine xr_getI B xg_X6_49 xh_3 rfl dX6_readDreams_5 ?_
  refine xr_meet (fun (w1 : Int32) => J 16 [some (.ref (ad 1))] [.int w1, .ref (ad 1)] σ) hf (fun w1 hf => ?_) (fun j2 hj2 hf => ?_)
  · refine xr_cVv B (rest := []) [.int w1] xm_X6_passWord xv_X6_68 (fun q hq => xc_X6_passWord l D ad ca σ w1 q hq) xh_1 rfl rfl (by decide) rfl (Nat.le_of_ble_eq_true rfl) dX6_readDreams_16 hf (fun s3 hf => ?_)
    refine xr_aload_n B dX6_readDreams_19 rfl rfl ?_
    refine xr_getR B xg_X6_18 xh_1 rfl dX6_readDreams_20 ?_
    refine xr_aload_n B dX6_readDreams_23 rfl rfl ?_
    refine xr_iconst B (v := 2) dX6_readDreams_24 (by decide) ?_
    refine xr_iconst B (v := 5) dX6_readDreams_25 (by decide) ?_
    refine xr_cVI B (rest := [.ref (ad 3)]) [.int 2, .int 5] xm_X6_readNumber xv_X6_72 (fun q hq => xc_X6_readNumber l D ad ca s3 2 5 q hq) xh_1 rfl rfl (by decide) rfl (Nat.le_of_ble_eq_true rfl) dX6_readDreams_26 hf (fun p4 hf => ?_)
    refine xq_put B xp_X6_49 rfl rfl xh_3 rfl dX6_readDreams_29 hf (fun s5 hf => ?_)
    refine xr_aload_n B dX6_readDreams_32 rfl rfl ?_
    refine xr_getR B xg_X6_18 xh_1 rfl dX6_readDreams_33 ?_
    refine xr_aload_n B dX6_readDreams_36 rfl rfl ?_
    refine xr_iconst B (v := 0) dX6_readDreams_37 (by decide) ?_
    refine xr_iconst B (v := 5) dX6_readDreams_38 (by decide) ?_
    refine xr_cVI B (rest := [.ref (ad 3)]) [.int 0, .int 5] xm_X6_readNumber xv_X6_72 (fun q hq => xc_X6_readNumber l D ad ca s5 0 5 q hq) xh_1 rfl rfl (by decide) rfl (Nat.le_of_ble_eq_true rfl) dX6_readDreams_39 hf (fun p6 hf => ?_)
    refine xq_put B xp_X6_76 rfl rfl xh_3 rfl dX6_readDreams_42 hf (fun s7 hf => ?_)
    refine xr_aload_n B dX6_readDreams_45 rfl rfl ?_
    refine xr_bipush B (v := 59) dX6_readDreams_46 (by decide) ?_
    refine xr_cVv B (rest := []) [.int 59] xm_X6_readSign xv_X6_79 (fun q hq => xc_X6_readSign l D ad ca s7 59 q hq) xh_1 rfl rfl (by decide) rfl (Nat.le_of_ble_eq_true rfl) dX6_readDreams_48 hf (fun s8 hf => ?_)
    obtain rfl := Option.some.inj hf
    exact RR _ _ dX6_readDreams_51 rfl
  · refine xr_if_ne B (tgt := 15) dX6_readDreams_8 (by decide) hf (fun _ hf => ?_) (fun _ hf => ?_)
    · refine xr_iconst B (v := 1) dX6_readDreams_11 (by decide) ?_
      refine xr_goto B (tgt := 16) dX6_readDreams_12 (by decide) ?_
      exact hj2 1 hf
    · refine xr_iconst B (v := 0) dX6_readDreams_15 (by decide) ?_
      exact hj2 0 hf

noncomputable def xf_X6_readSleeper_L23  (K7 : xr_S → Option xr_S) (t4 : (Int32 × xr_S)) (rec5 : (Int32 × xr_S) → Option xr_S) : Option xr_S := if (t4.2.1 3 0) ≤ t4.1 then (K7 t4.2) else (if (t4.2.1 1 5) = 0 then (xr_jn (fun (w8 : xr_S) => (xf_X6_readNumber w8 0 9).bind (fun p10 => (xf_X9_put p10.2 4 (w8.1 3 2) t4.1 p10.1).bind (fun s11 => rec5 ((t4.1 + 1), s11)))) (fun j9 => if t4.1 ≤ 0 then (j9 t4.2) else ((xf_X6_readSign t4.2 44).bind (fun s13 => j9 s13)))) else (K7 t4.2))
noncomputable def xf_X6_readSleeper (σ : xr_S) : Option xr_S := xr_jn (fun (w1 : Int32) => (xf_X6_passWord σ w1).bind (fun s3 => xr_lw (xf_X6_readSleeper_L23 (fun (e6 : xr_S) => (xf_X9_all e6 4 (e6.1 3 2)).bind (fun v14 => xr_jn (fun (w15 : xr_S) => (xf_X6_readSign w15 59).bind (fun s17 => if (s17.1 1 5) = 0 then (xr_pf s17 3 2 ((s17.1 3 2) + 1) (fun s18 => some s18)) else (some s17))) (fun j16 => if v14 = 0 then ((xf_X6_fail e6 4 (e6.1 1 6)).bind (fun s19 => j16 s19)) else (j16 e6))))) (0, s3))) (fun j2 => if 6 ≤ (σ.1 3 2) then (j2 0) else (j2 1))
set_option maxRecDepth 100000 in
set_option maxHeartbeats 4000000 in
theorem xc_X6_readSleeper (l : Launch) (D : va_G) (ad : Nat → Nat) (ca : Nat → ClassId) (σ : xr_S) (q : xr_S) (hf : xf_X6_readSleeper σ = some q) : xr_M l D ad ca yX6_readSleeper cX6_readSleeper 2 none 2 46 [.ref (ad 1)] σ none q := by
  refine xr_openV [some (.ref (ad 1)), none] xm_X6_readSleeper (Nat.le_of_ble_eq_true rfl) rfl (fun J B RR => ?_)
  unfold xf_X6_readSleeper at hf
  refine xr_aload_n B dX6_readSleeper_0 rfl rfl ?_
  refine xr_aload_n B dX6_readSleeper_1 rfl rfl ?_
  refine xr_getR B xg_X6_18 xh_1 rfl dX6_readSleeper_2 ?_
  refine xr_getI B xg_X6_82 xh_3 rfl dX6_readSleeper_5 ?_
  refine xr_bipush B (v := 6) dX6_readSleeper_8 (by decide) ?_
  refine xr_meet (fun (w1 : Int32) => J 18 [some (.ref (ad 1)), none] [.int w1, .ref (ad 1)] σ) hf (fun w1 hf => ?_) (fun j2 hj2 hf => ?_)
  · refine xr_cVv B (rest := []) [.int w1] xm_X6_passWord xv_X6_68 (fun q hq => xc_X6_passWord l D ad ca σ w1 q hq) xh_1 rfl rfl (by decide) rfl (Nat.le_of_ble_eq_true rfl) dX6_readSleeper_18 hf (fun s3 hf => ?_)
    refine xr_iconst B (v := 0) dX6_readSleeper_21 (by decide) ?_
    refine xr_istore_n B (lv2 := [some (.ref (ad 1)), some (.int 0)]) dX6_readSleeper_22 rfl (by decide) rfl ?_
    refine xq_loop (fun (t4 : (Int32 × xr_S)) => J 23 [some (.ref (ad 1)), some (.int t4.1)] [] t4.2) (fun (e6 : xr_S) => J 82 [some (.ref (ad 1)), none] [] e6) hf (fun e6 hf => ?_) (fun K7 hK7 t4 rec5 hrec5 hf => ?_)
    · refine xr_aload_n B dX6_readSleeper_82 rfl rfl ?_
      refine xr_getR B xg_X6_18 xh_1 rfl dX6_readSleeper_83 ?_
      refine xr_getR B xg_X6_85 xh_3 rfl dX6_readSleeper_86 ?_
      refine xr_aload_n B dX6_readSleeper_89 rfl rfl ?_
      refine xr_getR B xg_X6_18 xh_1 rfl dX6_readSleeper_90 ?_
      refine xr_getI B xg_X6_82 xh_3 rfl dX6_readSleeper_93 ?_
      refine xr_cVi B (rest := []) [.int (e6.1 3 2)] xm_X9_all xv_X6_95 (fun q hq => xc_X9_all l D ad ca e6 4 (e6.1 3 2) ⟨xh_4, xh_5⟩ q hq) xh_4 rfl rfl (by decide) rfl (Nat.le_of_ble_eq_true rfl) dX6_readSleeper_96 hf (fun v14 hf => ?_)
      refine xr_meet (fun (w15 : xr_S) => J 111 [some (.ref (ad 1)), none] [] w15) hf (fun w15 hf => ?_) (fun j16 hj16 hf => ?_)
      · refine xr_aload_n B dX6_readSleeper_111 rfl rfl ?_
        refine xr_bipush B (v := 59) dX6_readSleeper_112 (by decide) ?_
        refine xr_cVv B (rest := []) [.int 59] xm_X6_readSign xv_X6_79 (fun q hq => xc_X6_readSign l D ad ca w15 59 q hq) xh_1 rfl rfl (by decide) rfl (Nat.le_of_ble_eq_true rfl) dX6_readSleeper_114 hf (fun s17 hf => ?_)
        refine xr_aload_n B dX6_readSleeper_117 rfl rfl ?_
        refine xr_getI B xg_X6_35 xh_1 rfl dX6_readSleeper_118 ?_
        refine xr_if_ne B (tgt := 137) dX6_readSleeper_121 (by decide) hf (fun _ hf => ?_) (fun _ hf => ?_)
        · refine xr_aload_n B dX6_readSleeper_124 rfl rfl ?_
          refine xr_getR B xg_X6_18 xh_1 rfl dX6_readSleeper_125 ?_
          refine xr_dup B dX6_readSleeper_128 rfl ?_
          refine xr_getI B xg_X6_82 xh_3 rfl dX6_readSleeper_129 ?_
          refine xr_iconst B (v := 1) dX6_readSleeper_132 (by decide) ?_
          refine xr_iadd B dX6_readSleeper_133 ?_
          refine xq_put B xp_X6_82 rfl rfl xh_3 rfl dX6_readSleeper_134 hf (fun s18 hf => ?_)
          obtain rfl := Option.some.inj hf
          exact RR _ _ dX6_readSleeper_137 rfl
        · obtain rfl := Option.some.inj hf
          exact RR _ _ dX6_readSleeper_137 rfl
      · refine xr_if_ne B (tgt := 111) dX6_readSleeper_99 (by decide) hf (fun _ hf => ?_) (fun _ hf => ?_)
        · refine xr_aload_n B dX6_readSleeper_102 rfl rfl ?_
          refine xr_iconst B (v := 4) dX6_readSleeper_103 (by decide) ?_
          refine xr_aload_n B dX6_readSleeper_104 rfl rfl ?_
          refine xr_getI B xg_X6_99 xh_1 rfl dX6_readSleeper_105 ?_
          refine xr_cVv B (rest := []) [.int 4, .int (e6.1 1 6)] xm_X6_fail xv_X6_52 (fun q hq => xc_X6_fail l D ad ca e6 4 (e6.1 1 6) q hq) xh_1 rfl rfl (by decide) rfl (Nat.le_of_ble_eq_true rfl) dX6_readSleeper_108 hf (fun s19 hf => ?_)
          exact hj16 s19 hf
        · exact hj16 e6 hf
    · have hrec5 : ∀ (b1 : Int32) (b2 : xr_S), rec5 (b1, b2) = some q → J 23 [some (.ref (ad 1)), some (.int b1)] [] b2 := fun b1 b2 h => hrec5 (b1, b2) h
      unfold xf_X6_readSleeper_L23 at hf
      refine xr_iload_n B dX6_readSleeper_23 rfl rfl ?_
      refine xr_aload_n B dX6_readSleeper_24 rfl rfl ?_
      refine xr_getR B xg_X6_18 xh_1 rfl dX6_readSleeper_25 ?_
      refine xr_getI B xg_X6_49 xh_3 rfl dX6_readSleeper_28 ?_
      refine xr_ic_ge B (tgt := 82) dX6_readSleeper_31 (by decide) hf (fun _ hf => ?_) (fun _ hf => ?_)
      · refine xr_forget B (lv2 := [some (.ref (ad 1)), none]) ⟨rfl, trivial⟩ ?_
        exact hK7 t4.2 hf
      · refine xr_aload_n B dX6_readSleeper_34 rfl rfl ?_
        refine xr_getI B xg_X6_35 xh_1 rfl dX6_readSleeper_35 ?_
        refine xr_if_ne B (tgt := 82) dX6_readSleeper_38 (by decide) hf (fun _ hf => ?_) (fun _ hf => ?_)
        · refine xr_iload_n B dX6_readSleeper_41 rfl rfl ?_
          refine xr_meet (fun (w8 : xr_S) => J 51 [some (.ref (ad 1)), some (.int t4.1)] [] w8) hf (fun w8 hf => ?_) (fun j9 hj9 hf => ?_)
          · refine xr_aload_n B dX6_readSleeper_51 rfl rfl ?_
            refine xr_getR B xg_X6_18 xh_1 rfl dX6_readSleeper_52 ?_
            refine xr_getR B xg_X6_85 xh_3 rfl dX6_readSleeper_55 ?_
            refine xr_aload_n B dX6_readSleeper_58 rfl rfl ?_
            refine xr_getR B xg_X6_18 xh_1 rfl dX6_readSleeper_59 ?_
            refine xr_getI B xg_X6_82 xh_3 rfl dX6_readSleeper_62 ?_
            refine xr_iload_n B dX6_readSleeper_65 rfl rfl ?_
            refine xr_aload_n B dX6_readSleeper_66 rfl rfl ?_
            refine xr_iconst B (v := 0) dX6_readSleeper_67 (by decide) ?_
            refine xr_bipush B (v := 9) dX6_readSleeper_68 (by decide) ?_
            refine xr_cVI B (rest := [.int t4.1, .int (w8.1 3 2), .ref (ad 4)]) [.int 0, .int 9] xm_X6_readNumber xv_X6_72 (fun q hq => xc_X6_readNumber l D ad ca w8 0 9 q hq) xh_1 rfl rfl (by decide) rfl (Nat.le_of_ble_eq_true rfl) dX6_readSleeper_70 hf (fun p10 hf => ?_)
            refine xr_cVv B (rest := []) [.int (w8.1 3 2), .int t4.1, .int p10.1] xm_X9_put xv_X6_89 (fun q hq => xc_X9_put l D ad ca p10.2 4 (w8.1 3 2) t4.1 p10.1 ⟨xh_4, xh_5⟩ q hq) xh_4 rfl rfl (by decide) rfl (Nat.le_of_ble_eq_true rfl) dX6_readSleeper_73 hf (fun s11 hf => ?_)
            refine xr_iinc B (v := (t4.1 + 1)) (lv2 := [some (.ref (ad 1)), some (.int (t4.1 + 1))]) dX6_readSleeper_76 rfl (congrArg (t4.1 + ·) (by decide : Int32.ofInt (1) = 1)) (by decide) rfl ?_
            refine xr_goto B (tgt := 23) dX6_readSleeper_79 (by decide) ?_
            exact hrec5 (t4.1 + 1) s11 hf
          · refine xr_if_le B (tgt := 51) dX6_readSleeper_42 (by decide) hf (fun _ hf => ?_) (fun _ hf => ?_)
            · exact hj9 t4.2 hf
            · refine xr_aload_n B dX6_readSleeper_45 rfl rfl ?_
              refine xr_bipush B (v := 44) dX6_readSleeper_46 (by decide) ?_
              refine xr_cVv B (rest := []) [.int 44] xm_X6_readSign xv_X6_79 (fun q hq => xc_X6_readSign l D ad ca t4.2 44 q hq) xh_1 rfl rfl (by decide) rfl (Nat.le_of_ble_eq_true rfl) dX6_readSleeper_48 hf (fun s13 hf => ?_)
              exact hj9 s13 hf
        · refine xr_forget B (lv2 := [some (.ref (ad 1)), none]) ⟨rfl, trivial⟩ ?_
          exact hK7 t4.2 hf
  · refine xr_ic_ge B (tgt := 17) dX6_readSleeper_10 (by decide) hf (fun _ hf => ?_) (fun _ hf => ?_)
    · refine xr_iconst B (v := 0) dX6_readSleeper_17 (by decide) ?_
      exact hj2 0 hf
    · refine xr_iconst B (v := 1) dX6_readSleeper_13 (by decide) ?_
      refine xr_goto B (tgt := 18) dX6_readSleeper_14 (by decide) ?_
      exact hj2 1 hf

noncomputable def xf_X6_readLoaf (σ : xr_S) : Option xr_S := xr_jn (fun (w1 : Int32) => (xf_X6_passWord σ w1).bind (fun s3 => (xf_X6_readNumber s3 0 ((s3.1 3 2) - 1)).bind (fun p4 => (xf_X6_readNumber p4.2 0 ((p4.2.1 3 0) - 1)).bind (fun p5 => (xf_X6_readNumber p5.2 0 99).bind (fun p6 => (xf_X6_readSign p6.2 59).bind (fun s7 => if (s7.1 1 5) = 0 then (if 7 ≤ (s7.1 3 3) then (some s7) else (xr_st s7 6 7 (s7.1 3 3) p4.1 (fun s8 => xr_st s8 7 7 (s8.1 3 3) p5.1 (fun s9 => xr_st s9 8 7 (s9.1 3 3) p6.1 (fun s10 => xr_pf s10 3 3 ((s10.1 3 3) + 1) (fun s11 => some s11)))))) else (some s7))))))) (fun j2 => if 7 ≤ (σ.1 3 3) then (j2 0) else (j2 1))
set_option maxRecDepth 100000 in
set_option maxHeartbeats 4000000 in
theorem xc_X6_readLoaf (l : Launch) (D : va_G) (ad : Nat → Nat) (ca : Nat → ClassId) (σ : xr_S) (q : xr_S) (hf : xf_X6_readLoaf σ = some q) : xr_M l D ad ca yX6_readLoaf cX6_readLoaf 4 none 2 46 [.ref (ad 1)] σ none q := by
  refine xr_openV [some (.ref (ad 1)), none, none, none] xm_X6_readLoaf (Nat.le_of_ble_eq_true rfl) rfl (fun J B RR => ?_)
  unfold xf_X6_readLoaf at hf
  refine xr_aload_n B dX6_readLoaf_0 rfl rfl ?_
  refine xr_aload_n B dX6_readLoaf_1 rfl rfl ?_
  refine xr_getR B xg_X6_18 xh_1 rfl dX6_readLoaf_2 ?_
  refine xr_getI B xg_X6_102 xh_3 rfl dX6_readLoaf_5 ?_
  refine xr_bipush B (v := 7) dX6_readLoaf_8 (by decide) ?_
  refine xr_meet (fun (w1 : Int32) => J 18 [some (.ref (ad 1)), none, none, none] [.int w1, .ref (ad 1)] σ) hf (fun w1 hf => ?_) (fun j2 hj2 hf => ?_)
  · refine xr_cVv B (rest := []) [.int w1] xm_X6_passWord xv_X6_68 (fun q hq => xc_X6_passWord l D ad ca σ w1 q hq) xh_1 rfl rfl (by decide) rfl (Nat.le_of_ble_eq_true rfl) dX6_readLoaf_18 hf (fun s3 hf => ?_)
    refine xr_aload_n B dX6_readLoaf_21 rfl rfl ?_
    refine xr_iconst B (v := 0) dX6_readLoaf_22 (by decide) ?_
    refine xr_aload_n B dX6_readLoaf_23 rfl rfl ?_
    refine xr_getR B xg_X6_18 xh_1 rfl dX6_readLoaf_24 ?_
    refine xr_getI B xg_X6_82 xh_3 rfl dX6_readLoaf_27 ?_
    refine xr_iconst B (v := 1) dX6_readLoaf_30 (by decide) ?_
    refine xr_isub B dX6_readLoaf_31 ?_
    refine xr_cVI B (rest := []) [.int 0, .int ((s3.1 3 2) - 1)] xm_X6_readNumber xv_X6_72 (fun q hq => xc_X6_readNumber l D ad ca s3 0 ((s3.1 3 2) - 1) q hq) xh_1 rfl rfl (by decide) rfl (Nat.le_of_ble_eq_true rfl) dX6_readLoaf_32 hf (fun p4 hf => ?_)
    refine xr_istore_n B (lv2 := [some (.ref (ad 1)), some (.int p4.1), none, none]) dX6_readLoaf_35 rfl (by decide) rfl ?_
    refine xr_aload_n B dX6_readLoaf_36 rfl rfl ?_
    refine xr_iconst B (v := 0) dX6_readLoaf_37 (by decide) ?_
    refine xr_aload_n B dX6_readLoaf_38 rfl rfl ?_
    refine xr_getR B xg_X6_18 xh_1 rfl dX6_readLoaf_39 ?_
    refine xr_getI B xg_X6_49 xh_3 rfl dX6_readLoaf_42 ?_
    refine xr_iconst B (v := 1) dX6_readLoaf_45 (by decide) ?_
    refine xr_isub B dX6_readLoaf_46 ?_
    refine xr_cVI B (rest := []) [.int 0, .int ((p4.2.1 3 0) - 1)] xm_X6_readNumber xv_X6_72 (fun q hq => xc_X6_readNumber l D ad ca p4.2 0 ((p4.2.1 3 0) - 1) q hq) xh_1 rfl rfl (by decide) rfl (Nat.le_of_ble_eq_true rfl) dX6_readLoaf_47 hf (fun p5 hf => ?_)
    refine xr_istore_n B (lv2 := [some (.ref (ad 1)), some (.int p4.1), some (.int p5.1), none]) dX6_readLoaf_50 rfl (by decide) rfl ?_
    refine xr_aload_n B dX6_readLoaf_51 rfl rfl ?_
    refine xr_iconst B (v := 0) dX6_readLoaf_52 (by decide) ?_
    refine xr_bipush B (v := 99) dX6_readLoaf_53 (by decide) ?_
    refine xr_cVI B (rest := []) [.int 0, .int 99] xm_X6_readNumber xv_X6_72 (fun q hq => xc_X6_readNumber l D ad ca p5.2 0 99 q hq) xh_1 rfl rfl (by decide) rfl (Nat.le_of_ble_eq_true rfl) dX6_readLoaf_55 hf (fun p6 hf => ?_)
    refine xr_istore_n B (lv2 := [some (.ref (ad 1)), some (.int p4.1), some (.int p5.1), some (.int p6.1)]) dX6_readLoaf_58 rfl (by decide) rfl ?_
    refine xr_aload_n B dX6_readLoaf_59 rfl rfl ?_
    refine xr_bipush B (v := 59) dX6_readLoaf_60 (by decide) ?_
    refine xr_cVv B (rest := []) [.int 59] xm_X6_readSign xv_X6_79 (fun q hq => xc_X6_readSign l D ad ca p6.2 59 q hq) xh_1 rfl rfl (by decide) rfl (Nat.le_of_ble_eq_true rfl) dX6_readLoaf_62 hf (fun s7 hf => ?_)
    refine xr_aload_n B dX6_readLoaf_65 rfl rfl ?_
    refine xr_getI B xg_X6_35 xh_1 rfl dX6_readLoaf_66 ?_
    refine xr_if_ne B (tgt := 145) dX6_readLoaf_69 (by decide) hf (fun _ hf => ?_) (fun _ hf => ?_)
    · refine xr_aload_n B dX6_readLoaf_72 rfl rfl ?_
      refine xr_getR B xg_X6_18 xh_1 rfl dX6_readLoaf_73 ?_
      refine xr_getI B xg_X6_102 xh_3 rfl dX6_readLoaf_76 ?_
      refine xr_bipush B (v := 7) dX6_readLoaf_79 (by decide) ?_
      refine xr_ic_ge B (tgt := 145) dX6_readLoaf_81 (by decide) hf (fun _ hf => ?_) (fun _ hf => ?_)
      · obtain rfl := Option.some.inj hf
        exact RR _ _ dX6_readLoaf_145 rfl
      · refine xr_aload_n B dX6_readLoaf_84 rfl rfl ?_
        refine xr_getR B xg_X6_18 xh_1 rfl dX6_readLoaf_85 ?_
        refine xr_getR B xg_X6_105 xh_3 rfl dX6_readLoaf_88 ?_
        refine xr_aload_n B dX6_readLoaf_91 rfl rfl ?_
        refine xr_getR B xg_X6_18 xh_1 rfl dX6_readLoaf_92 ?_
        refine xr_getI B xg_X6_102 xh_3 rfl dX6_readLoaf_95 ?_
        refine xr_iload_n B dX6_readLoaf_98 rfl rfl ?_
        refine xq_iast B xh_6 dX6_readLoaf_99 hf (fun s8 hf => ?_)
        refine xr_aload_n B dX6_readLoaf_100 rfl rfl ?_
        refine xr_getR B xg_X6_18 xh_1 rfl dX6_readLoaf_101 ?_
        refine xr_getR B xg_X6_108 xh_3 rfl dX6_readLoaf_104 ?_
        refine xr_aload_n B dX6_readLoaf_107 rfl rfl ?_
        refine xr_getR B xg_X6_18 xh_1 rfl dX6_readLoaf_108 ?_
        refine xr_getI B xg_X6_102 xh_3 rfl dX6_readLoaf_111 ?_
        refine xr_iload_n B dX6_readLoaf_114 rfl rfl ?_
        refine xq_iast B xh_7 dX6_readLoaf_115 hf (fun s9 hf => ?_)
        refine xr_aload_n B dX6_readLoaf_116 rfl rfl ?_
        refine xr_getR B xg_X6_18 xh_1 rfl dX6_readLoaf_117 ?_
        refine xr_getR B xg_X6_111 xh_3 rfl dX6_readLoaf_120 ?_
        refine xr_aload_n B dX6_readLoaf_123 rfl rfl ?_
        refine xr_getR B xg_X6_18 xh_1 rfl dX6_readLoaf_124 ?_
        refine xr_getI B xg_X6_102 xh_3 rfl dX6_readLoaf_127 ?_
        refine xr_iload_n B dX6_readLoaf_130 rfl rfl ?_
        refine xq_iast B xh_8 dX6_readLoaf_131 hf (fun s10 hf => ?_)
        refine xr_aload_n B dX6_readLoaf_132 rfl rfl ?_
        refine xr_getR B xg_X6_18 xh_1 rfl dX6_readLoaf_133 ?_
        refine xr_dup B dX6_readLoaf_136 rfl ?_
        refine xr_getI B xg_X6_102 xh_3 rfl dX6_readLoaf_137 ?_
        refine xr_iconst B (v := 1) dX6_readLoaf_140 (by decide) ?_
        refine xr_iadd B dX6_readLoaf_141 ?_
        refine xq_put B xp_X6_102 rfl rfl xh_3 rfl dX6_readLoaf_142 hf (fun s11 hf => ?_)
        obtain rfl := Option.some.inj hf
        exact RR _ _ dX6_readLoaf_145 rfl
    · obtain rfl := Option.some.inj hf
      exact RR _ _ dX6_readLoaf_145 rfl
  · refine xr_ic_ge B (tgt := 17) dX6_readLoaf_10 (by decide) hf (fun _ hf => ?_) (fun _ hf => ?_)
    · refine xr_iconst B (v := 0) dX6_readLoaf_17 (by decide) ?_
      exact hj2 0 hf
    · refine xr_iconst B (v := 1) dX6_readLoaf_13 (by decide) ?_
      refine xr_goto B (tgt := 18) dX6_readLoaf_14 (by decide) ?_
      exact hj2 1 hf

noncomputable def xf_X6_readNightmare (σ : xr_S) : Option xr_S := xr_jn (fun (w1 : Int32) => (xf_X6_passWord σ w1).bind (fun s3 => (xf_X6_readNumber s3 0 ((s3.1 3 0) - 1)).bind (fun p4 => xr_pf p4.2 3 4 p4.1 (fun s5 => (xf_X6_readSign s5 59).bind (fun s6 => xr_pf s6 1 7 1 (fun s7 => some s7)))))) (fun j2 => if (σ.1 1 7) = 0 then (j2 1) else (j2 0))
set_option maxRecDepth 100000 in
set_option maxHeartbeats 4000000 in
theorem xc_X6_readNightmare (l : Launch) (D : va_G) (ad : Nat → Nat) (ca : Nat → ClassId) (σ : xr_S) (q : xr_S) (hf : xf_X6_readNightmare σ = some q) : xr_M l D ad ca yX6_readNightmare cX6_readNightmare 1 none 2 46 [.ref (ad 1)] σ none q := by
  refine xr_openV [some (.ref (ad 1))] xm_X6_readNightmare (Nat.le_of_ble_eq_true rfl) rfl (fun J B RR => ?_)
  unfold xf_X6_readNightmare at hf
  refine xr_aload_n B dX6_readNightmare_0 rfl rfl ?_
  refine xr_aload_n B dX6_readNightmare_1 rfl rfl ?_
  refine xr_getI B xg_X6_38 xh_1 rfl dX6_readNightmare_2 ?_
  refine xr_meet (fun (w1 : Int32) => J 13 [some (.ref (ad 1))] [.int w1, .ref (ad 1)] σ) hf (fun w1 hf => ?_) (fun j2 hj2 hf => ?_)
  · refine xr_cVv B (rest := []) [.int w1] xm_X6_passWord xv_X6_68 (fun q hq => xc_X6_passWord l D ad ca σ w1 q hq) xh_1 rfl rfl (by decide) rfl (Nat.le_of_ble_eq_true rfl) dX6_readNightmare_13 hf (fun s3 hf => ?_)
    refine xr_aload_n B dX6_readNightmare_16 rfl rfl ?_
    refine xr_getR B xg_X6_18 xh_1 rfl dX6_readNightmare_17 ?_
    refine xr_aload_n B dX6_readNightmare_20 rfl rfl ?_
    refine xr_iconst B (v := 0) dX6_readNightmare_21 (by decide) ?_
    refine xr_aload_n B dX6_readNightmare_22 rfl rfl ?_
    refine xr_getR B xg_X6_18 xh_1 rfl dX6_readNightmare_23 ?_
    refine xr_getI B xg_X6_49 xh_3 rfl dX6_readNightmare_26 ?_
    refine xr_iconst B (v := 1) dX6_readNightmare_29 (by decide) ?_
    refine xr_isub B dX6_readNightmare_30 ?_
    refine xr_cVI B (rest := [.ref (ad 3)]) [.int 0, .int ((s3.1 3 0) - 1)] xm_X6_readNumber xv_X6_72 (fun q hq => xc_X6_readNumber l D ad ca s3 0 ((s3.1 3 0) - 1) q hq) xh_1 rfl rfl (by decide) rfl (Nat.le_of_ble_eq_true rfl) dX6_readNightmare_31 hf (fun p4 hf => ?_)
    refine xq_put B xp_X6_114 rfl rfl xh_3 rfl dX6_readNightmare_34 hf (fun s5 hf => ?_)
    refine xr_aload_n B dX6_readNightmare_37 rfl rfl ?_
    refine xr_bipush B (v := 59) dX6_readNightmare_38 (by decide) ?_
    refine xr_cVv B (rest := []) [.int 59] xm_X6_readSign xv_X6_79 (fun q hq => xc_X6_readSign l D ad ca s5 59 q hq) xh_1 rfl rfl (by decide) rfl (Nat.le_of_ble_eq_true rfl) dX6_readNightmare_40 hf (fun s6 hf => ?_)
    refine xr_aload_n B dX6_readNightmare_43 rfl rfl ?_
    refine xr_iconst B (v := 1) dX6_readNightmare_44 (by decide) ?_
    refine xq_put B xp_X6_38 rfl rfl xh_1 rfl dX6_readNightmare_45 hf (fun s7 hf => ?_)
    obtain rfl := Option.some.inj hf
    exact RR _ _ dX6_readNightmare_48 rfl
  · refine xr_if_ne B (tgt := 12) dX6_readNightmare_5 (by decide) hf (fun _ hf => ?_) (fun _ hf => ?_)
    · refine xr_iconst B (v := 1) dX6_readNightmare_8 (by decide) ?_
      refine xr_goto B (tgt := 13) dX6_readNightmare_9 (by decide) ?_
      exact hj2 1 hf
    · refine xr_iconst B (v := 0) dX6_readNightmare_12 (by decide) ?_
      exact hj2 0 hf

noncomputable def xf_X6_readClause (σ : xr_S) (a1 : Int32) : Option xr_S := xr_jn (fun (w1 : Unit) => if a1 = 100 then ((xf_X6_readDreams σ).bind (fun s3 => some s3)) else if a1 = 108 then ((xf_X6_readLoaf σ).bind (fun s4 => some s4)) else if a1 = 110 then ((xf_X6_readNightmare σ).bind (fun s5 => some s5)) else if a1 = 115 then ((xf_X6_readSleeper σ).bind (fun s6 => some s6)) else ((xf_X6_fail σ 1 (σ.1 1 4)).bind (fun s7 => some s7))) (fun j2 => if (σ.1 3 0) = 0 then (if a1 = 100 then (j2 ()) else ((xf_X6_fail σ 1 (σ.1 1 4)).bind (fun s8 => some s8))) else (j2 ()))
set_option maxRecDepth 100000 in
set_option maxHeartbeats 4000000 in
theorem xc_X6_readClause (l : Launch) (D : va_G) (ad : Nat → Nat) (ca : Nat → ClassId) (σ : xr_S) (a1 : Int32) (q : xr_S) (hf : xf_X6_readClause σ a1 = some q) : xr_M l D ad ca yX6_readClause cX6_readClause 2 none 3 69 [.ref (ad 1), .int a1] σ none q := by
  refine xr_openV [some (.ref (ad 1)), some (.int a1)] xm_X6_readClause (Nat.le_of_ble_eq_true rfl) rfl (fun J B RR => ?_)
  unfold xf_X6_readClause at hf
  refine xr_aload_n B dX6_readClause_0 rfl rfl ?_
  refine xr_getR B xg_X6_18 xh_1 rfl dX6_readClause_1 ?_
  refine xr_getI B xg_X6_49 xh_3 rfl dX6_readClause_4 ?_
  refine xr_meet (fun (w1 : Unit) => J 26 [some (.ref (ad 1)), some (.int a1)] [] σ) hf (fun w1 hf => ?_) (fun j2 hj2 hf => ?_)
  · refine xr_iload_n B dX6_readClause_26 rfl rfl ?_
    by_cases hc100 : a1 = 100
    · rw [if_pos hc100] at hf
      refine xr_look B (off := 41) (tgt := 68) dX6_readClause_27 (by decide) (by rw [hc100]; decide) (by decide) ?_
      refine xr_aload_n B dX6_readClause_68 rfl rfl ?_
      refine xr_cVv B (rest := []) [] xm_X6_readDreams xv_X6_56 (fun q hq => xc_X6_readDreams l D ad ca σ q hq) xh_1 rfl rfl (by decide) rfl (Nat.le_of_ble_eq_true rfl) dX6_readClause_69 hf (fun s3 hf => ?_)
      refine xr_goto B (tgt := 105) dX6_readClause_72 (by decide) ?_
      obtain rfl := Option.some.inj hf
      exact RR _ _ dX6_readClause_105 rfl
    rw [if_neg hc100] at hf
    by_cases hc108 : a1 = 108
    · rw [if_pos hc108] at hf
      refine xr_look B (off := 55) (tgt := 82) dX6_readClause_27 (by decide) (by rw [hc108]; decide) (by decide) ?_
      refine xr_aload_n B dX6_readClause_82 rfl rfl ?_
      refine xr_cVv B (rest := []) [] xm_X6_readLoaf xv_X6_62 (fun q hq => xc_X6_readLoaf l D ad ca σ q hq) xh_1 rfl rfl (by decide) rfl (Nat.le_of_ble_eq_true rfl) dX6_readClause_83 hf (fun s4 hf => ?_)
      refine xr_goto B (tgt := 105) dX6_readClause_86 (by decide) ?_
      obtain rfl := Option.some.inj hf
      exact RR _ _ dX6_readClause_105 rfl
    rw [if_neg hc108] at hf
    by_cases hc110 : a1 = 110
    · rw [if_pos hc110] at hf
      refine xr_look B (off := 62) (tgt := 89) dX6_readClause_27 (by decide) (by rw [hc110]; decide) (by decide) ?_
      refine xr_aload_n B dX6_readClause_89 rfl rfl ?_
      refine xr_cVv B (rest := []) [] xm_X6_readNightmare xv_X6_65 (fun q hq => xc_X6_readNightmare l D ad ca σ q hq) xh_1 rfl rfl (by decide) rfl (Nat.le_of_ble_eq_true rfl) dX6_readClause_90 hf (fun s5 hf => ?_)
      refine xr_goto B (tgt := 105) dX6_readClause_93 (by decide) ?_
      obtain rfl := Option.some.inj hf
      exact RR _ _ dX6_readClause_105 rfl
    rw [if_neg hc110] at hf
    by_cases hc115 : a1 = 115
    · rw [if_pos hc115] at hf
      refine xr_look B (off := 48) (tgt := 75) dX6_readClause_27 (by decide) (by rw [hc115]; decide) (by decide) ?_
      refine xr_aload_n B dX6_readClause_75 rfl rfl ?_
      refine xr_cVv B (rest := []) [] xm_X6_readSleeper xv_X6_59 (fun q hq => xc_X6_readSleeper l D ad ca σ q hq) xh_1 rfl rfl (by decide) rfl (Nat.le_of_ble_eq_true rfl) dX6_readClause_76 hf (fun s6 hf => ?_)
      refine xr_goto B (tgt := 105) dX6_readClause_79 (by decide) ?_
      obtain rfl := Option.some.inj hf
      exact RR _ _ dX6_readClause_105 rfl
    rw [if_neg hc115] at hf
    refine xr_look B (off := 69) (tgt := 96) dX6_readClause_27 (by decide) ?_ (by decide) ?_
    · have e100 : ¬ (a1).toInt = 100 := fun h => hc100 (Int32.toInt_inj.mp (by rw [h]; decide))
      have e108 : ¬ (a1).toInt = 108 := fun h => hc108 (Int32.toInt_inj.mp (by rw [h]; decide))
      have e110 : ¬ (a1).toInt = 110 := fun h => hc110 (Int32.toInt_inj.mp (by rw [h]; decide))
      have e115 : ¬ (a1).toInt = 115 := fun h => hc115 (Int32.toInt_inj.mp (by rw [h]; decide))
      simp [Op.lookupswitch.offset, e100, Ne.symm e100, e108, Ne.symm e108, e110, Ne.symm e110, e115, Ne.symm e115]
    · refine xr_aload_n B dX6_readClause_96 rfl rfl ?_
      refine xr_iconst B (v := 1) dX6_readClause_97 (by decide) ?_
      refine xr_aload_n B dX6_readClause_98 rfl rfl ?_
      refine xr_getI B xg_X6_32 xh_1 rfl dX6_readClause_99 ?_
      refine xr_cVv B (rest := []) [.int 1, .int (σ.1 1 4)] xm_X6_fail xv_X6_52 (fun q hq => xc_X6_fail l D ad ca σ 1 (σ.1 1 4) q hq) xh_1 rfl rfl (by decide) rfl (Nat.le_of_ble_eq_true rfl) dX6_readClause_102 hf (fun s7 hf => ?_)
      obtain rfl := Option.some.inj hf
      exact RR _ _ dX6_readClause_105 rfl
  · refine xr_if_ne B (tgt := 26) dX6_readClause_7 (by decide) hf (fun _ hf => ?_) (fun _ hf => ?_)
    · refine xr_iload_n B dX6_readClause_10 rfl rfl ?_
      refine xr_bipush B (v := 100) dX6_readClause_11 (by decide) ?_
      refine xr_ic_eq B (tgt := 26) dX6_readClause_13 (by decide) hf (fun _ hf => ?_) (fun _ hf => ?_)
      · exact hj2 () hf
      · refine xr_aload_n B dX6_readClause_16 rfl rfl ?_
        refine xr_iconst B (v := 1) dX6_readClause_17 (by decide) ?_
        refine xr_aload_n B dX6_readClause_18 rfl rfl ?_
        refine xr_getI B xg_X6_32 xh_1 rfl dX6_readClause_19 ?_
        refine xr_cVv B (rest := []) [.int 1, .int (σ.1 1 4)] xm_X6_fail xv_X6_52 (fun q hq => xc_X6_fail l D ad ca σ 1 (σ.1 1 4) q hq) xh_1 rfl rfl (by decide) rfl (Nat.le_of_ble_eq_true rfl) dX6_readClause_22 hf (fun s8 hf => ?_)
        obtain rfl := Option.some.inj hf
        exact RR _ _ dX6_readClause_25 rfl
    · exact hj2 () hf

noncomputable def xf_X6_parse_L33  (K10 : xr_S → Option (Int32 × xr_S)) (t7 : (Int32 × xr_S)) (rec8 : (Int32 × xr_S) → Option (Int32 × xr_S)) : Option (Int32 × xr_S) := if 240 ≤ t7.1 then (K10 t7.2) else (if (t7.2.1 1 0) ≤ (t7.2.1 1 4) then (K10 t7.2) else (if (t7.2.1 1 5) = 0 then (xr_ld t7.2 2 240 (t7.2.1 1 4) (fun v11 => (xf_X6_readClause t7.2 v11).bind (fun s12 => (xf_X6_skipBlanks s12).bind (fun s13 => rec8 ((t7.1 + 1), s13))))) else (K10 t7.2)))
noncomputable def xf_X6_parse (σ : xr_S) : Option (Int32 × xr_S) := (xf_X7_clear σ).bind (fun s1 => xr_pf s1 1 4 0 (fun s2 => xr_pf s2 1 5 0 (fun s3 => xr_pf s3 1 1 (-1) (fun s4 => xr_pf s4 1 7 0 (fun s5 => (xf_X6_skipBlanks s5).bind (fun s6 => xr_lw (xf_X6_parse_L33 (fun (e9 : xr_S) => some ((e9.1 1 5), e9))) (0, s6)))))))
set_option maxRecDepth 100000 in
set_option maxHeartbeats 4000000 in
theorem xc_X6_parse (l : Launch) (D : va_G) (ad : Nat → Nat) (ca : Nat → ClassId) (σ : xr_S) (q : (Int32 × xr_S)) (hf : xf_X6_parse σ = some q) : xr_M l D ad ca yX6_parse cX6_parse 2 (some .int) 4 90 [.ref (ad 1)] σ (some (.int q.1)) q.2 := by
  refine xr_openI [some (.ref (ad 1)), none] xm_X6_parse (Nat.le_of_ble_eq_true rfl) rfl (fun J B RR => ?_)
  unfold xf_X6_parse at hf
  refine xr_aload_n B dX6_parse_0 rfl rfl ?_
  refine xr_getR B xg_X6_18 xh_1 rfl dX6_parse_1 ?_
  refine xr_cVv B (rest := []) [] xm_X7_clear xv_X6_29 (fun q hq => xc_X7_clear l D ad ca σ q hq) xh_3 rfl rfl (by decide) rfl (Nat.le_of_ble_eq_true rfl) dX6_parse_4 hf (fun s1 hf => ?_)
  refine xr_aload_n B dX6_parse_7 rfl rfl ?_
  refine xr_iconst B (v := 0) dX6_parse_8 (by decide) ?_
  refine xq_put B xp_X6_32 rfl rfl xh_1 rfl dX6_parse_9 hf (fun s2 hf => ?_)
  refine xr_aload_n B dX6_parse_12 rfl rfl ?_
  refine xr_iconst B (v := 0) dX6_parse_13 (by decide) ?_
  refine xq_put B xp_X6_35 rfl rfl xh_1 rfl dX6_parse_14 hf (fun s3 hf => ?_)
  refine xr_aload_n B dX6_parse_17 rfl rfl ?_
  refine xr_iconst B (v := (-1)) dX6_parse_18 (by decide) ?_
  refine xq_put B xp_X6_9 rfl rfl xh_1 rfl dX6_parse_19 hf (fun s4 hf => ?_)
  refine xr_aload_n B dX6_parse_22 rfl rfl ?_
  refine xr_iconst B (v := 0) dX6_parse_23 (by decide) ?_
  refine xq_put B xp_X6_38 rfl rfl xh_1 rfl dX6_parse_24 hf (fun s5 hf => ?_)
  refine xr_aload_n B dX6_parse_27 rfl rfl ?_
  refine xr_cVv B (rest := []) [] xm_X6_skipBlanks xv_X6_42 (fun q hq => xc_X6_skipBlanks l D ad ca s5 q hq) xh_1 rfl rfl (by decide) rfl (Nat.le_of_ble_eq_true rfl) dX6_parse_28 hf (fun s6 hf => ?_)
  refine xr_iconst B (v := 0) dX6_parse_31 (by decide) ?_
  refine xr_istore_n B (lv2 := [some (.ref (ad 1)), some (.int 0)]) dX6_parse_32 rfl (by decide) rfl ?_
  refine xq_loop (fun (t7 : (Int32 × xr_S)) => J 33 [some (.ref (ad 1)), some (.int t7.1)] [] t7.2) (fun (e9 : xr_S) => J 81 [some (.ref (ad 1)), none] [] e9) hf (fun e9 hf => ?_) (fun K10 hK10 t7 rec8 hrec8 hf => ?_)
  · refine xr_aload_n B dX6_parse_81 rfl rfl ?_
    refine xr_getI B xg_X6_35 xh_1 rfl dX6_parse_82 ?_
    obtain rfl := Option.some.inj hf
    exact RR _ _ _ dX6_parse_85 rfl
  · have hrec8 : ∀ (b1 : Int32) (b2 : xr_S), rec8 (b1, b2) = some q → J 33 [some (.ref (ad 1)), some (.int b1)] [] b2 := fun b1 b2 h => hrec8 (b1, b2) h
    unfold xf_X6_parse_L33 at hf
    refine xr_iload_n B dX6_parse_33 rfl rfl ?_
    refine xr_sipush B (v := 240) dX6_parse_34 (by decide) ?_
    refine xr_ic_ge B (tgt := 81) dX6_parse_37 (by decide) hf (fun _ hf => ?_) (fun _ hf => ?_)
    · refine xr_forget B (lv2 := [some (.ref (ad 1)), none]) ⟨rfl, trivial⟩ ?_
      exact hK10 t7.2 hf
    · refine xr_aload_n B dX6_parse_40 rfl rfl ?_
      refine xr_getI B xg_X6_32 xh_1 rfl dX6_parse_41 ?_
      refine xr_aload_n B dX6_parse_44 rfl rfl ?_
      refine xr_getI B xg_X6_26 xh_1 rfl dX6_parse_45 ?_
      refine xr_ic_ge B (tgt := 81) dX6_parse_48 (by decide) hf (fun _ hf => ?_) (fun _ hf => ?_)
      · refine xr_forget B (lv2 := [some (.ref (ad 1)), none]) ⟨rfl, trivial⟩ ?_
        exact hK10 t7.2 hf
      · refine xr_aload_n B dX6_parse_51 rfl rfl ?_
        refine xr_getI B xg_X6_35 xh_1 rfl dX6_parse_52 ?_
        refine xr_if_ne B (tgt := 81) dX6_parse_55 (by decide) hf (fun _ hf => ?_) (fun _ hf => ?_)
        · refine xr_aload_n B dX6_parse_58 rfl rfl ?_
          refine xr_aload_n B dX6_parse_59 rfl rfl ?_
          refine xr_getR B xg_X6_22 xh_1 rfl dX6_parse_60 ?_
          refine xr_aload_n B dX6_parse_63 rfl rfl ?_
          refine xr_getI B xg_X6_32 xh_1 rfl dX6_parse_64 ?_
          refine xq_iald B xh_2 dX6_parse_67 hf (fun v11 hf => ?_)
          refine xr_cVv B (rest := []) [.int v11] xm_X6_readClause xv_X6_45 (fun q hq => xc_X6_readClause l D ad ca t7.2 v11 q hq) xh_1 rfl rfl (by decide) rfl (Nat.le_of_ble_eq_true rfl) dX6_parse_68 hf (fun s12 hf => ?_)
          refine xr_aload_n B dX6_parse_71 rfl rfl ?_
          refine xr_cVv B (rest := []) [] xm_X6_skipBlanks xv_X6_42 (fun q hq => xc_X6_skipBlanks l D ad ca s12 q hq) xh_1 rfl rfl (by decide) rfl (Nat.le_of_ble_eq_true rfl) dX6_parse_72 hf (fun s13 hf => ?_)
          refine xr_iinc B (v := (t7.1 + 1)) (lv2 := [some (.ref (ad 1)), some (.int (t7.1 + 1))]) dX6_parse_75 rfl (congrArg (t7.1 + ·) (by decide : Int32.ofInt (1) = 1)) (by decide) rfl ?_
          refine xr_goto B (tgt := 33) dX6_parse_78 (by decide) ?_
          exact hrec8 (t7.1 + 1) s13 hf
        · refine xr_forget B (lv2 := [some (.ref (ad 1)), none]) ⟨rfl, trivial⟩ ?_
          exact hK10 t7.2 hf
