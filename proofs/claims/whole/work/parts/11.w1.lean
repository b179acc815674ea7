noncomputable def xf_X5_begin (σ : xr_S) : Option xr_S := (xf_X9_become σ 16 10).bind (fun s1 => (xf_J7_fill_53178 s1 18 7 (-1)).bind (fun s2 => (xf_J7_fill_53178 s2 19 7 (-1)).bind (fun s3 => xr_pf s3 15 3 0 (fun s4 => xr_pf s4 15 4 0 (fun s5 => xr_pf s5 15 5 0 (fun s6 => xr_pf s6 15 6 0 (fun s7 => some s7)))))))
set_option maxRecDepth 100000 in
set_option maxHeartbeats 4000000 in
theorem xc_X5_begin (l : Launch) (D : va_G) (ad : Nat → Nat) (ca : Nat → ClassId) (σ : xr_S) (q : xr_S) (hf : xf_X5_begin σ = some q) : xr_M l D ad ca yX5_begin cX5_begin 2 none 2 47 [.ref (ad 15), .ref (ad 9)] σ none q := by
  refine xr_openV [some (.ref (ad 15)), some (.ref (ad 9))] xm_X5_begin (Nat.le_of_ble_eq_true rfl) rfl (fun J B RR => ?_)
  unfold xf_X5_begin at hf
  refine xr_aload_n B dX5_begin_0 rfl rfl ?_
  refine xr_getR B xg_X5_12 xh_15 rfl dX5_begin_1 ?_
  refine xr_aload_n B dX5_begin_4 rfl rfl ?_
  refine xr_getR B xg_X5_31 xh_9 rfl dX5_begin_5 ?_
  refine xr_cVv B (rest := []) [.ref (ad 10)] xm_X9_become xv_X5_34 (fun q hq => xc_X9_become l D ad ca σ 16 10 ⟨xh_16, xh_17⟩ ⟨xh_10, xh_11⟩ q hq) xh_16 rfl rfl (by decide) rfl (Nat.le_of_ble_eq_true rfl) dX5_begin_8 hf (fun s1 hf => ?_)
  refine xr_aload_n B dX5_begin_11 rfl rfl ?_
  refine xr_getR B xg_X5_18 xh_15 rfl dX5_begin_12 ?_
  refine xr_iconst B (v := (-1)) dX5_begin_15 (by decide) ?_
  refine xr_cSv B (rest := []) [.ref (ad 18), .int (-1)] xm_J7_fill_53178 xs_X5_25 (fun q hq => xc_J7_fill_53178 l D ad ca s1 18 7 (-1) xh_18 q hq) rfl (by decide) rfl (Nat.le_of_ble_eq_true rfl) dX5_begin_16 hf (fun s2 hf => ?_)
  refine xr_aload_n B dX5_begin_19 rfl rfl ?_
  refine xr_getR B xg_X5_22 xh_15 rfl dX5_begin_20 ?_
  refine xr_iconst B (v := (-1)) dX5_begin_23 (by decide) ?_
  refine xr_cSv B (rest := []) [.ref (ad 19), .int (-1)] xm_J7_fill_53178 xs_X5_25 (fun q hq => xc_J7_fill_53178 l D ad ca s2 19 7 (-1) xh_19 q hq) rfl (by decide) rfl (Nat.le_of_ble_eq_true rfl) dX5_begin_24 hf (fun s3 hf => ?_)
  refine xr_aload_n B dX5_begin_27 rfl rfl ?_
  refine xr_iconst B (v := 0) dX5_begin_28 (by decide) ?_
  refine xq_put B xp_X5_38 rfl rfl xh_15 rfl dX5_begin_29 hf (fun s4 hf => ?_)
  refine xr_aload_n B dX5_begin_32 rfl rfl ?_
  refine xr_iconst B (v := 0) dX5_begin_33 (by decide) ?_
  refine xq_put B xp_X5_42 rfl rfl xh_15 rfl dX5_begin_34 hf (fun s5 hf => ?_)
  refine xr_aload_n B dX5_begin_37 rfl rfl ?_
  refine xr_iconst B (v := 0) dX5_begin_38 (by decide) ?_
  refine xq_put B xp_X5_45 rfl rfl xh_15 rfl dX5_begin_39 hf (fun s6 hf => ?_)
  refine xr_aload_n B dX5_begin_42 rfl rfl ?_
  refine xr_iconst B (v := 0) dX5_begin_43 (by decide) ?_
  refine xq_put B xp_X5_48 rfl rfl xh_15 rfl dX5_begin_44 hf (fun s7 hf => ?_)
  obtain rfl := Option.some.inj hf
  exact RR _ _ dX5_begin_47 rfl

noncomputable def xf_X5_become (σ : xr_S) (c : Nat) (c2 : Nat) : Option xr_S := (xf_X9_become σ (c + 1) (c2 + 1)).bind (fun s1 => xr_cp s1 (c2 + 3) (c + 3) 7 7 0 0 7 (fun s2 => xr_cp s2 (c2 + 4) (c + 4) 7 7 0 0 7 (fun s3 => xr_pf s3 c 3 (s3.1 c2 3) (fun s4 => xr_pf s4 c 4 (s4.1 c2 4) (fun s5 => xr_pf s5 c 5 (s5.1 c2 5) (fun s6 => xr_pf s6 c 6 (s6.1 c2 6) (fun s7 => xr_pf s7 c 7 (s7.1 c2 7) (fun s8 => some s8))))))))
set_option maxRecDepth 100000 in
set_option maxHeartbeats 4000000 in
theorem xc_X5_become (l : Launch) (D : va_G) (ad : Nat → Nat) (ca : Nat → ClassId) (σ : xr_S) (c : Nat) (c2 : Nat) (hc : xr_isS c) (hc2 : xr_isS c2) (q : xr_S) (hf : xf_X5_become σ c c2 = some q) : xr_M l D ad ca yX5_become cX5_become 2 none 2 47 [.ref (ad c), .ref (ad c2)] σ none q := by
  refine xr_openV [some (.ref (ad c)), some (.ref (ad c2))] xm_X5_become (Nat.le_of_ble_eq_true rfl) rfl (fun J B RR => ?_)
  unfold xf_X5_become at hf
  refine xr_aload_n B dX5_become_0 rfl rfl ?_
  refine xr_getR B xg_X5_12 hc.1 rfl dX5_become_1 ?_
  refine xr_aload_n B dX5_become_4 rfl rfl ?_
  refine xr_getR B xg_X5_12 hc2.1 rfl dX5_become_5 ?_
  refine xr_cVv B (rest := []) [.ref (ad (c2 + 1))] xm_X9_become xv_X5_34 (fun q hq => xc_X9_become l D ad ca σ (c + 1) (c2 + 1) hc.2.1 hc2.2.1 q hq) hc.2.1.1 rfl rfl (by decide) rfl (Nat.le_of_ble_eq_true rfl) dX5_become_8 hf (fun s1 hf => ?_)
  refine xr_aload_n B dX5_become_11 rfl rfl ?_
  refine xr_getR B xg_X5_18 hc2.1 rfl dX5_become_12 ?_
  refine xr_iconst B (v := 0) dX5_become_15 (by decide) ?_
  refine xr_aload_n B dX5_become_16 rfl rfl ?_
  refine xr_getR B xg_X5_18 hc.1 rfl dX5_become_17 ?_
  refine xr_iconst B (v := 0) dX5_become_20 (by decide) ?_
  refine xr_bipush B (v := 7) dX5_become_21 (by decide) ?_
  refine xq_copy B xa_X5_51 hc2.2.2.1 hc.2.2.1 (by decide) (by decide) (Nat.le_of_ble_eq_true rfl) dX5_become_23 hf (fun s2 hf => ?_)
  refine xr_aload_n B dX5_become_26 rfl rfl ?_
  refine xr_getR B xg_X5_22 hc2.1 rfl dX5_become_27 ?_
  refine xr_iconst B (v := 0) dX5_become_30 (by decide) ?_
  refine xr_aload_n B dX5_become_31 rfl rfl ?_
  refine xr_getR B xg_X5_22 hc.1 rfl dX5_become_32 ?_
  refine xr_iconst B (v := 0) dX5_become_35 (by decide) ?_
  refine xr_bipush B (v := 7) dX5_become_36 (by decide) ?_
  refine xq_copy B xa_X5_51 hc2.2.2.2 hc.2.2.2 (by decide) (by decide) (Nat.le_of_ble_eq_true rfl) dX5_become_38 hf (fun s3 hf => ?_)
  refine xr_aload_n B dX5_become_41 rfl rfl ?_
  refine xr_aload_n B dX5_become_42 rfl rfl ?_
  refine xr_getI B xg_X5_38 hc2.1 rfl dX5_become_43 ?_
  refine xq_put B xp_X5_38 rfl rfl hc.1 rfl dX5_become_46 hf (fun s4 hf => ?_)
  refine xr_aload_n B dX5_become_49 rfl rfl ?_
  refine xr_aload_n B dX5_become_50 rfl rfl ?_
  refine xr_getI B xg_X5_42 hc2.1 rfl dX5_become_51 ?_
  refine xq_put B xp_X5_42 rfl rfl hc.1 rfl dX5_become_54 hf (fun s5 hf => ?_)
  refine xr_aload_n B dX5_become_57 rfl rfl ?_
  refine xr_aload_n B dX5_become_58 rfl rfl ?_
  refine xr_getI B xg_X5_45 hc2.1 rfl dX5_become_59 ?_
  refine xq_put B xp_X5_45 rfl rfl hc.1 rfl dX5_become_62 hf (fun s6 hf => ?_)
  refine xr_aload_n B dX5_become_65 rfl rfl ?_
  refine xr_aload_n B dX5_become_66 rfl rfl ?_
  refine xr_getI B xg_X5_48 hc2.1 rfl dX5_become_67 ?_
  refine xq_put B xp_X5_48 rfl rfl hc.1 rfl dX5_become_70 hf (fun s7 hf => ?_)
  refine xr_aload_n B dX5_become_73 rfl rfl ?_
  refine xr_aload_n B dX5_become_74 rfl rfl ?_
  refine xr_getI B xg_X5_57 hc2.1 rfl dX5_become_75 ?_
  refine xq_put B xp_X5_57 rfl rfl hc.1 rfl dX5_become_78 hf (fun s8 hf => ?_)
  obtain rfl := Option.some.inj hf
  exact RR _ _ dX5_become_81 rfl

noncomputable def xf_X5_isFresh (σ : xr_S) (a1 : Int32) : Option Int32 := xr_ld σ 19 7 a1 (fun v1 => if v1 = (-1) then (some 1) else (some 0))
set_option maxRecDepth 100000 in
set_option maxHeartbeats 4000000 in
theorem xc_X5_isFresh (l : Launch) (D : va_G) (ad : Nat → Nat) (ca : Nat → ClassId) (σ : xr_S) (a1 : Int32) (q : Int32) (hf : xf_X5_isFresh σ a1 = some q) : xr_M l D ad ca yX5_isFresh cX5_isFresh 2 (some .boolean) 0 0 [.ref (ad 15), .int a1] σ (some (.int q)) σ := by
  refine xr_openZ [some (.ref (ad 15)), some (.int a1)] xm_X5_isFresh (Nat.le_of_ble_eq_true rfl) rfl (fun J B RR => ?_)
  unfold xf_X5_isFresh at hf
  refine xr_aload_n B dX5_isFresh_0 rfl rfl ?_
  refine xr_getR B xg_X5_22 xh_15 rfl dX5_isFresh_1 ?_
  refine xr_iload_n B dX5_isFresh_4 rfl rfl ?_
  refine xq_iald B xh_19 dX5_isFresh_5 hf (fun v1 hf => ?_)
  refine xr_iconst B (v := (-1)) dX5_isFresh_6 (by decide) ?_
  refine xr_ic_ne B (tgt := 14) dX5_isFresh_7 (by decide) hf (fun _ hf => ?_) (fun _ hf => ?_)
  · refine xr_iconst B (v := 1) dX5_isFresh_10 (by decide) ?_
    refine xr_goto B (tgt := 15) dX5_isFresh_11 (by decide) ?_
    obtain rfl := Option.some.inj hf
    exact RR _ _ _ (by decide) dX5_isFresh_15 rfl
  · refine xr_iconst B (v := 0) dX5_isFresh_14 (by decide) ?_
    obtain rfl := Option.some.inj hf
    exact RR _ _ _ (by decide) dX5_isFresh_15 rfl

noncomputable def xf_X5_isAwake (σ : xr_S) (a1 : Int32) : Option Int32 := if (((σ.1 15 4) >>> (a1 &&& 31)) &&& 1) = 1 then (some 1) else (some 0)
set_option maxRecDepth 100000 in
set_option maxHeartbeats 4000000 in
theorem xc_X5_isAwake (l : Launch) (D : va_G) (ad : Nat → Nat) (ca : Nat → ClassId) (σ : xr_S) (a1 : Int32) (q : Int32) (hf : xf_X5_isAwake σ a1 = some q) : xr_M l D ad ca yX5_isAwake cX5_isAwake 2 (some .boolean) 0 0 [.ref (ad 15), .int a1] σ (some (.int q)) σ := by
  refine xr_openZ [some (.ref (ad 15)), some (.int a1)] xm_X5_isAwake (Nat.le_of_ble_eq_true rfl) rfl (fun J B RR => ?_)
  unfold xf_X5_isAwake at hf
  refine xr_aload_n B dX5_isAwake_0 rfl rfl ?_
  refine xr_getI B xg_X5_42 xh_15 rfl dX5_isAwake_1 ?_
  refine xr_iload_n B dX5_isAwake_4 rfl rfl ?_
  refine xr_ishr B dX5_isAwake_5 ?_
  refine xr_iconst B (v := 1) dX5_isAwake_6 (by decide) ?_
  refine xr_iand B dX5_isAwake_7 ?_
  refine xr_iconst B (v := 1) dX5_isAwake_8 (by decide) ?_
  refine xr_ic_ne B (tgt := 16) dX5_isAwake_9 (by decide) hf (fun _ hf => ?_) (fun _ hf => ?_)
  · refine xr_iconst B (v := 1) dX5_isAwake_12 (by decide) ?_
    refine xr_goto B (tgt := 17) dX5_isAwake_13 (by decide) ?_
    obtain rfl := Option.some.inj hf
    exact RR _ _ _ (by decide) dX5_isAwake_17 rfl
  · refine xr_iconst B (v := 0) dX5_isAwake_16 (by decide) ?_
    obtain rfl := Option.some.inj hf
    exact RR _ _ _ (by decide) dX5_isAwake_17 rfl

noncomputable def xf_X5_loafOn_L2 (σ : xr_S) (a1 : Int32) (K4 : Unit → Option Int32) (t1 : Int32) (rec2 : Int32 → Option Int32) : Option Int32 := if 7 ≤ t1 then (K4 ()) else (xr_ld σ 18 7 t1 (fun v5 => if v5 = a1 then (some t1) else (rec2 (t1 + 1))))
noncomputable def xf_X5_loafOn (σ : xr_S) (a1 : Int32) : Option Int32 := xr_lw (xf_X5_loafOn_L2 σ a1 (fun (e3 : Unit) => some (-1))) 0
set_option maxRecDepth 100000 in
set_option maxHeartbeats 4000000 in
theorem xc_X5_loafOn (l : Launch) (D : va_G) (ad : Nat → Nat) (ca : Nat → ClassId) (σ : xr_S) (a1 : Int32) (q : Int32) (hf : xf_X5_loafOn σ a1 = some q) : xr_M l D ad ca yX5_loafOn cX5_loafOn 3 (some .int) 0 0 [.ref (ad 15), .int a1] σ (some (.int q)) σ := by
  refine xr_openI [some (.ref (ad 15)), some (.int a1), none] xm_X5_loafOn (Nat.le_of_ble_eq_true rfl) rfl (fun J B RR => ?_)
  unfold xf_X5_loafOn at hf
  refine xr_iconst B (v := 0) dX5_loafOn_0 (by decide) ?_
  refine xr_istore_n B (lv2 := [some (.ref (ad 15)), some (.int a1), some (.int 0)]) dX5_loafOn_1 rfl (by decide) rfl ?_
  refine xq_loop (fun (t1 : Int32) => J 2 [some (.ref (ad 15)), some (.int a1), some (.int t1)] [] σ) (fun (e3 : Unit) => J 26 [none, none, none] [] σ) hf (fun e3 hf => ?_) (fun K4 hK4 t1 rec2 hrec2 hf => ?_)
  · refine xr_iconst B (v := (-1)) dX5_loafOn_26 (by decide) ?_
    obtain rfl := Option.some.inj hf
    exact RR _ _ _ dX5_loafOn_27 rfl
  · unfold xf_X5_loafOn_L2 at hf
    refine xr_iload_n B dX5_loafOn_2 rfl rfl ?_
    refine xr_bipush B (v := 7) dX5_loafOn_3 (by decide) ?_
    refine xr_ic_ge B (tgt := 26) dX5_loafOn_5 (by decide) hf (fun _ hf => ?_) (fun _ hf => ?_)
    · refine xr_forget B (lv2 := [none, none, none]) trivial ?_
      exact hK4 () hf
    · refine xr_aload_n B dX5_loafOn_8 rfl rfl ?_
      refine xr_getR B xg_X5_18 xh_15 rfl dX5_loafOn_9 ?_
      refine xr_iload_n B dX5_loafOn_12 rfl rfl ?_
      refine xq_iald B xh_18 dX5_loafOn_13 hf (fun v5 hf => ?_)
      refine xr_iload_n B dX5_loafOn_14 rfl rfl ?_
      refine xr_ic_ne B (tgt := 20) dX5_loafOn_15 (by decide) hf (fun _ hf => ?_) (fun _ hf => ?_)
      · refine xr_iload_n B dX5_loafOn_18 rfl rfl ?_
        obtain rfl := Option.some.inj hf
        exact RR _ _ _ dX5_loafOn_19 rfl
      · refine xr_iinc B (v := (t1 + 1)) (lv2 := [some (.ref (ad 15)), some (.int a1), some (.int (t1 + 1))]) dX5_loafOn_20 rfl (congrArg (t1 + ·) (by decide : Int32.ofInt (1) = 1)) (by decide) rfl ?_
        refine xr_goto B (tgt := 2) dX5_loafOn_23 (by decide) ?_
        exact hrec2 (t1 + 1) hf

noncomputable def xf_X5_setOf_L4 (σ : xr_S) (c : Nat) (K4 : Int32 → Option Int32) (t1 : (Int32 × Int32)) (rec2 : (Int32 × Int32) → Option Int32) : Option Int32 := if 7 ≤ t1.2 then (K4 t1.1) else (xr_ld σ c 7 t1.2 (fun v5 => xr_jn (fun (w6 : Int32) => rec2 (w6, (t1.2 + 1))) (fun j7 => if v5 = (-1) then (j7 t1.1) else (xr_v ((t1.1 ||| ((1 : Int32) <<< (t1.2 &&& 31)))) (fun v9 => j7 v9)))))
noncomputable def xf_X5_setOf (σ : xr_S) (c : Nat) : Option Int32 := xr_lw (xf_X5_setOf_L4 σ c (fun (e3 : Int32) => some e3)) (0, 0)
set_option maxRecDepth 100000 in
set_option maxHeartbeats 4000000 in
theorem xc_X5_setOf (l : Launch) (D : va_G) (ad : Nat → Nat) (ca : Nat → ClassId) (σ : xr_S) (c : Nat) (hc : xr_sh[c]? = some (.inl (0, 7))) (q : Int32) (hf : xf_X5_setOf σ c = some q) : xr_M l D ad ca yX5_setOf cX5_setOf 3 (some .int) 0 0 [.ref (ad c)] σ (some (.int q)) σ := by
  refine xr_openI [some (.ref (ad c)), none, none] xm_X5_setOf (Nat.le_of_ble_eq_true rfl) rfl (fun J B RR => ?_)
  unfold xf_X5_setOf at hf
  refine xr_iconst B (v := 0) dX5_setOf_0 (by decide) ?_
  refine xr_istore_n B (lv2 := [some (.ref (ad c)), some (.int 0), none]) dX5_setOf_1 rfl (by decide) rfl ?_
  refine xr_iconst B (v := 0) dX5_setOf_2 (by decide) ?_
  refine xr_istore_n B (lv2 := [some (.ref (ad c)), some (.int 0), some (.int 0)]) dX5_setOf_3 rfl (by decide) rfl ?_
  refine xq_loop (fun (t1 : (Int32 × Int32)) => J 4 [some (.ref (ad c)), some (.int t1.1), some (.int t1.2)] [] σ) (fun (e3 : Int32) => J 29 [none, some (.int e3), none] [] σ) hf (fun e3 hf => ?_) (fun K4 hK4 t1 rec2 hrec2 hf => ?_)
  · refine xr_iload_n B dX5_setOf_29 rfl rfl ?_
    obtain rfl := Option.some.inj hf
    exact RR _ _ _ dX5_setOf_30 rfl
  · have hrec2 : ∀ (b1 : Int32) (b2 : Int32), rec2 (b1, b2) = some q → J 4 [some (.ref (ad c)), some (.int b1), some (.int b2)] [] σ := fun b1 b2 h => hrec2 (b1, b2) h
    unfold xf_X5_setOf_L4 at hf
    refine xr_iload_n B dX5_setOf_4 rfl rfl ?_
    refine xr_aload_n B dX5_setOf_5 rfl rfl ?_
    refine xr_alen B (v := 7) hc rfl dX5_setOf_6 ?_
    refine xr_ic_ge B (tgt := 29) dX5_setOf_7 (by decide) hf (fun _ hf => ?_) (fun _ hf => ?_)
    · refine xr_forget B (lv2 := [none, some (.int t1.1), none]) ⟨rfl, trivial⟩ ?_
      exact hK4 t1.1 hf
    · refine xr_aload_n B dX5_setOf_10 rfl rfl ?_
      refine xr_iload_n B dX5_setOf_11 rfl rfl ?_
      refine xq_iald B hc dX5_setOf_12 hf (fun v5 hf => ?_)
      refine xr_iconst B (v := (-1)) dX5_setOf_13 (by decide) ?_
      refine xr_meet (fun (w6 : Int32) => J 23 [some (.ref (ad c)), some (.int w6), some (.int t1.2)] [] σ) hf (fun w6 hf => ?_) (fun j7 hj7 hf => ?_)
      · refine xr_iinc B (v := (t1.2 + 1)) (lv2 := [some (.ref (ad c)), some (.int w6), some (.int (t1.2 + 1))]) dX5_setOf_23 rfl (congrArg (t1.2 + ·) (by decide : Int32.ofInt (1) = 1)) (by decide) rfl ?_
        refine xr_goto B (tgt := 4) dX5_setOf_26 (by decide) ?_
        exact hrec2 w6 (t1.2 + 1) hf
      · refine xr_ic_eq B (tgt := 23) dX5_setOf_14 (by decide) hf (fun _ hf => ?_) (fun _ hf => ?_)
        · exact hj7 t1.1 hf
        · refine xr_iload_n B dX5_setOf_17 rfl rfl ?_
          refine xr_iconst B (v := 1) dX5_setOf_18 (by decide) ?_
          refine xr_iload_n B dX5_setOf_19 rfl rfl ?_
          refine xr_ishl B dX5_setOf_20 ?_
          refine xr_ior B dX5_setOf_21 ?_
          refine xr_top _ hf (fun v9 hf => ?_)
          refine xr_istore_n B (lv2 := [some (.ref (ad c)), some (.int v9), some (.int t1.2)]) dX5_setOf_22 rfl (by decide) rfl ?_
          exact hj7 v9 hf

noncomputable def xf_X5_lyingSet (σ : xr_S) : Option Int32 := (xf_X5_setOf σ 18).bind (fun v1 => some v1)
set_option maxRecDepth 100000 in
set_option maxHeartbeats 4000000 in
theorem xc_X5_lyingSet (l : Launch) (D : va_G) (ad : Nat → Nat) (ca : Nat → ClassId) (σ : xr_S) (q : Int32) (hf : xf_X5_lyingSet σ = some q) : xr_M l D ad ca yX5_lyingSet cX5_lyingSet 1 (some .int) 1 22 [.ref (ad 15)] σ (some (.int q)) σ := by
  refine xr_openI [some (.ref (ad 15))] xm_X5_lyingSet (Nat.le_of_ble_eq_true rfl) rfl (fun J B RR => ?_)
  unfold xf_X5_lyingSet at hf
  refine xr_aload_n B dX5_lyingSet_0 rfl rfl ?_
  refine xr_getR B xg_X5_18 xh_15 rfl dX5_lyingSet_1 ?_
  refine xr_cSi B (rest := []) [.ref (ad 18)] xm_X5_setOf xs_X5_60 (fun q hq => xc_X5_setOf l D ad ca σ 18 xh_18 q hq) rfl (by decide) rfl (Nat.le_of_ble_eq_true rfl) dX5_lyingSet_4 hf (fun v1 hf => ?_)
  obtain rfl := Option.some.inj hf
  exact RR _ _ _ dX5_lyingSet_7 rfl

noncomputable def xf_X5_sleptOnSet (σ : xr_S) : Option Int32 := (xf_X5_setOf σ 19).bind (fun v1 => some v1)
set_option maxRecDepth 100000 in
set_option maxHeartbeats 4000000 in
theorem xc_X5_sleptOnSet (l : Launch) (D : va_G) (ad : Nat → Nat) (ca : Nat → ClassId) (σ : xr_S) (q : Int32) (hf : xf_X5_sleptOnSet σ = some q) : xr_M l D ad ca yX5_sleptOnSet cX5_sleptOnSet 1 (some .int) 1 22 [.ref (ad 15)] σ (some (.int q)) σ := by
  refine xr_openI [some (.ref (ad 15))] xm_X5_sleptOnSet (Nat.le_of_ble_eq_true rfl) rfl (fun J B RR => ?_)
  unfold xf_X5_sleptOnSet at hf
  refine xr_aload_n B dX5_sleptOnSet_0 rfl rfl ?_
  refine xr_getR B xg_X5_22 xh_15 rfl dX5_sleptOnSet_1 ?_
  refine xr_cSi B (rest := []) [.ref (ad 19)] xm_X5_setOf xs_X5_60 (fun q hq => xc_X5_setOf l D ad ca σ 19 xh_19 q hq) rfl (by decide) rfl (Nat.le_of_ble_eq_true rfl) dX5_sleptOnSet_4 hf (fun v1 hf => ?_)
  obtain rfl := Option.some.inj hf
  exact RR _ _ _ dX5_sleptOnSet_7 rfl

noncomputable def xf_X5_worthOn (σ : xr_S) (a1 : Int32) (a2 : Int32) : Option Int32 := (xf_X9_all σ 16 a2).bind (fun v1 => if 0 < v1 then (xr_ld σ 14 7 a1 (fun v2 => xr_ld σ 13 7 a1 (fun v3 => (xf_X9_of σ 16 a2 v3).bind (fun v4 => xr_nz v1 (some (((1000000 * v2) * v4) / v1)))))) else (some 0))
set_option maxRecDepth 100000 in
set_option maxHeartbeats 4000000 in
theorem xc_X5_worthOn (l : Launch) (D : va_G) (ad : Nat → Nat) (ca : Nat → ClassId) (σ : xr_S) (a1 : Int32) (a2 : Int32) (q : Int32) (hf : xf_X5_worthOn σ a1 a2 = some q) : xr_M l D ad ca yX5_worthOn cX5_worthOn 5 (some .int) 1 23 [.ref (ad 15), .ref (ad 9), .int a1, .int a2] σ (some (.int q)) σ := by
  refine xr_openI [some (.ref (ad 15)), some (.ref (ad 9)), some (.int a1), some (.int a2), none] xm_X5_worthOn (Nat.le_of_ble_eq_true rfl) rfl (fun J B RR => ?_)
  unfold xf_X5_worthOn at hf
  refine xr_aload_n B dX5_worthOn_0 rfl rfl ?_
  refine xr_getR B xg_X5_12 xh_15 rfl dX5_worthOn_1 ?_
  refine xr_iload_n B dX5_worthOn_4 rfl rfl ?_
  refine xr_cVi B (rest := []) [.int a2] xm_X9_all xv_X5_64 (fun q hq => xc_X9_all l D ad ca σ 16 a2 ⟨xh_16, xh_17⟩ q hq) xh_16 rfl rfl (by decide) rfl (Nat.le_of_ble_eq_true rfl) dX5_worthOn_5 hf (fun v1 hf => ?_)
  refine xr_istore B (lv2 := [some (.ref (ad 15)), some (.ref (ad 9)), some (.int a1), some (.int a2), some (.int v1)]) dX5_worthOn_8 (by decide) rfl ?_
  refine xr_iload B dX5_worthOn_10 rfl ?_
  refine xr_if_gt B (tgt := 17) dX5_worthOn_12 (by decide) hf (fun _ hf => ?_) (fun _ hf => ?_)
  · refine xr_ldc B xk_X5_68 dX5_worthOn_17 ?_
    refine xr_aload_n B dX5_worthOn_19 rfl rfl ?_
    refine xr_getR B xg_X5_69 xh_9 rfl dX5_worthOn_20 ?_
    refine xr_iload_n B dX5_worthOn_23 rfl rfl ?_
    refine xq_iald B xh_14 dX5_worthOn_24 hf (fun v2 hf => ?_)
    refine xr_imul B dX5_worthOn_25 ?_
    refine xr_aload_n B dX5_worthOn_26 rfl rfl ?_
    refine xr_getR B xg_X5_12 xh_15 rfl dX5_worthOn_27 ?_
    refine xr_iload_n B dX5_worthOn_30 rfl rfl ?_
    refine xr_aload_n B dX5_worthOn_31 rfl rfl ?_
    refine xr_getR B xg_X5_72 xh_9 rfl dX5_worthOn_32 ?_
    refine xr_iload_n B dX5_worthOn_35 rfl rfl ?_
    refine xq_iald B xh_13 dX5_worthOn_36 hf (fun v3 hf => ?_)
    refine xr_cVi B (rest := [.int (1000000 * v2)]) [.int a2, .int v3] xm_X9_of xv_X5_75 (fun q hq => xc_X9_of l D ad ca σ 16 a2 v3 ⟨xh_16, xh_17⟩ q hq) xh_16 rfl rfl (by decide) rfl (Nat.le_of_ble_eq_true rfl) dX5_worthOn_37 hf (fun v4 hf => ?_)
    refine xr_imul B dX5_worthOn_40 ?_
    refine xr_iload B dX5_worthOn_41 rfl ?_
    refine xr_idiv B dX5_worthOn_43 hf (fun hf => ?_)
    obtain rfl := Option.some.inj hf
    exact RR _ _ _ dX5_worthOn_44 rfl
  · refine xr_iconst B (v := 0) dX5_worthOn_15 (by decide) ?_
    obtain rfl := Option.some.inj hf
    exact RR _ _ _ dX5_worthOn_16 rfl

noncomputable def xf_X5_draw (σ : xr_S) (a1 : Int32) : Option (Int32 × xr_S) := xr_pf σ 15 7 (Int64.toInt32 ((((Int32.toInt64 (σ.1 15 7)) * 1103515245) + 12345) &&& 2147483647)) (fun s1 => if a1 ≤ 0 then (some (0, s1)) else (xr_nz a1 (some ((((s1.1 15 7) / 65536) - ((s1.1 15 7) / 65536) / a1 * a1), s1))))
set_option maxRecDepth 100000 in
set_option maxHeartbeats 4000000 in
theorem xc_X5_draw (l : Launch) (D : va_G) (ad : Nat → Nat) (ca : Nat → ClassId) (σ : xr_S) (a1 : Int32) (q : (Int32 × xr_S)) (hf : xf_X5_draw σ a1 = some q) : xr_M l D ad ca yX5_draw cX5_draw 2 (some .int) 0 0 [.ref (ad 15), .int a1] σ (some (.int q.1)) q.2 := by
  refine xr_openI [some (.ref (ad 15)), some (.int a1)] xm_X5_draw (Nat.le_of_ble_eq_true rfl) rfl (fun J B RR => ?_)
  unfold xf_X5_draw at hf
  refine xr_aload_n B dX5_draw_0 rfl rfl ?_
  refine xr_aload_n B dX5_draw_1 rfl rfl ?_
  refine xr_getI B xg_X5_57 xh_15 rfl dX5_draw_2 ?_
  refine xr_i2l B dX5_draw_5 ?_
  refine xr_ldc2 B xl_X5_111 dX5_draw_6 ?_
  refine xr_lmul B dX5_draw_9 ?_
  refine xr_ldc2 B xl_X5_113 dX5_draw_10 ?_
  refine xr_ladd B dX5_draw_13 ?_
  refine xr_ldc2 B xl_X5_115 dX5_draw_14 ?_
  refine xr_land B dX5_draw_17 ?_
  refine xr_l2i B dX5_draw_18 ?_
  refine xq_put B xp_X5_57 rfl rfl xh_15 rfl dX5_draw_19 hf (fun s1 hf => ?_)
  refine xr_iload_n B dX5_draw_22 rfl rfl ?_
  refine xr_if_le B (tgt := 38) dX5_draw_23 (by decide) hf (fun _ hf => ?_) (fun _ hf => ?_)
  · refine xr_iconst B (v := 0) dX5_draw_38 (by decide) ?_
    obtain rfl := Option.some.inj hf
    exact RR _ _ _ dX5_draw_39 rfl
  · refine xr_aload_n B dX5_draw_26 rfl rfl ?_
    refine xr_getI B xg_X5_57 xh_15 rfl dX5_draw_27 ?_
    refine xr_ldc B xk_X5_117 dX5_draw_30 ?_
    refine xr_idivK B dX5_draw_32 (by decide) ?_
    refine xr_iload_n B dX5_draw_33 rfl rfl ?_
    refine xr_irem B dX5_draw_34 hf (fun hf => ?_)
    refine xr_goto B (tgt := 39) dX5_draw_35 (by decide) ?_
    obtain rfl := Option.some.inj hf
    exact RR _ _ _ dX5_draw_39 rfl

noncomputable def xf_X5_drawDream_L18 (p2 : (Int32 × xr_S)) (a1 : Int32) (K6 : Unit → Option (Int32 × xr_S)) (t3 : (Int32 × Int32)) (rec4 : (Int32 × Int32) → Option (Int32 × xr_S)) : Option (Int32 × xr_S) := if 5 ≤ t3.2 then (K6 ()) else ((xf_X9_of p2.2 16 a1 t3.2).bind (fun v7 => xr_v ((t3.1 + v7)) (fun v8 => if v8 ≤ p2.1 then (rec4 (v8, (t3.2 + 1))) else (some (t3.2, p2.2)))))
noncomputable def xf_X5_drawDream (σ : xr_S) (a1 : Int32) : Option (Int32 × xr_S) := (xf_X9_all σ 16 a1).bind (fun v1 => (xf_X5_draw σ v1).bind (fun p2 => xr_lw (xf_X5_drawDream_L18 p2 a1 (fun (e5 : Unit) => some (0, p2.2))) (0, 0)))
set_option maxRecDepth 100000 in
set_option maxHeartbeats 4000000 in
theorem xc_X5_drawDream (l : Launch) (D : va_G) (ad : Nat → Nat) (ca : Nat → ClassId) (σ : xr_S) (a1 : Int32) (q : (Int32 × xr_S)) (hf : xf_X5_drawDream σ a1 = some q) : xr_M l D ad ca yX5_drawDream cX5_drawDream 5 (some .int) 1 23 [.ref (ad 15), .int a1] σ (some (.int q.1)) q.2 := by
  refine xr_openI [some (.ref (ad 15)), some (.int a1), none, none, none] xm_X5_drawDream (Nat.le_of_ble_eq_true rfl) rfl (fun J B RR => ?_)
  unfold xf_X5_drawDream at hf
  refine xr_aload_n B dX5_drawDream_0 rfl rfl ?_
  refine xr_aload_n B dX5_drawDream_1 rfl rfl ?_
  refine xr_getR B xg_X5_12 xh_15 rfl dX5_drawDream_2 ?_
  refine xr_iload_n B dX5_drawDream_5 rfl rfl ?_
  refine xr_cVi B (rest := [.ref (ad 15)]) [.int a1] xm_X9_all xv_X5_64 (fun q hq => xc_X9_all l D ad ca σ 16 a1 ⟨xh_16, xh_17⟩ q hq) xh_16 rfl rfl (by decide) rfl (Nat.le_of_ble_eq_true rfl) dX5_drawDream_6 hf (fun v1 hf => ?_)
  refine xr_cVI B (rest := []) [.int v1] xm_X5_draw xv_X5_108 (fun q hq => xc_X5_draw l D ad ca σ v1 q hq) xh_15 rfl rfl (by decide) rfl (Nat.le_of_ble_eq_true rfl) dX5_drawDream_9 hf (fun p2 hf => ?_)
  refine xr_istore_n B (lv2 := [some (.ref (ad 15)), some (.int a1), some (.int p2.1), none, none]) dX5_drawDream_12 rfl (by decide) rfl ?_
  refine xr_iconst B (v := 0) dX5_drawDream_13 (by decide) ?_
  refine xr_istore_n B (lv2 := [some (.ref (ad 15)), some (.int a1), some (.int p2.1), some (.int 0), none]) dX5_drawDream_14 rfl (by decide) rfl ?_
  refine xr_iconst B (v := 0) dX5_drawDream_15 (by decide) ?_
  refine xr_istore B (lv2 := [some (.ref (ad 15)), some (.int a1), some (.int p2.1), some (.int 0), some (.int 0)]) dX5_drawDream_16 (by decide) rfl ?_
  refine xq_loop (fun (t3 : (Int32 × Int32)) => J 18 [some (.ref (ad 15)), some (.int a1), some (.int p2.1), some (.int t3.1), some (.int t3.2)] [] p2.2) (fun (e5 : Unit) => J 51 [none, none, none, none, none] [] p2.2) hf (fun e5 hf => ?_) (fun K6 hK6 t3 rec4 hrec4 hf => ?_)
  · refine xr_iconst B (v := 0) dX5_drawDream_51 (by decide) ?_
    obtain rfl := Option.some.inj hf
    exact RR _ _ _ dX5_drawDream_52 rfl
  · have hrec4 : ∀ (b1 : Int32) (b2 : Int32), rec4 (b1, b2) = some q → J 18 [some (.ref (ad 15)), some (.int a1), some (.int p2.1), some (.int b1), some (.int b2)] [] p2.2 := fun b1 b2 h => hrec4 (b1, b2) h
    unfold xf_X5_drawDream_L18 at hf
    refine xr_iload B dX5_drawDream_18 rfl ?_
    refine xr_iconst B (v := 5) dX5_drawDream_20 (by decide) ?_
    refine xr_ic_ge B (tgt := 51) dX5_drawDream_21 (by decide) hf (fun _ hf => ?_) (fun _ hf => ?_)
    · refine xr_forget B (lv2 := [none, none, none, none, none]) trivial ?_
      exact hK6 () hf
    · refine xr_iload_n B dX5_drawDream_24 rfl rfl ?_
      refine xr_aload_n B dX5_drawDream_25 rfl rfl ?_
      refine xr_getR B xg_X5_12 xh_15 rfl dX5_drawDream_26 ?_
      refine xr_iload_n B dX5_drawDream_29 rfl rfl ?_
      refine xr_iload B dX5_drawDream_30 rfl ?_
      refine xr_cVi B (rest := [.int t3.1]) [.int a1, .int t3.2] xm_X9_of xv_X5_75 (fun q hq => xc_X9_of l D ad ca p2.2 16 a1 t3.2 ⟨xh_16, xh_17⟩ q hq) xh_16 rfl rfl (by decide) rfl (Nat.le_of_ble_eq_true rfl) dX5_drawDream_32 hf (fun v7 hf => ?_)
      refine xr_iadd B dX5_drawDream_35 ?_
      refine xr_top _ hf (fun v8 hf => ?_)
      refine xr_istore_n B (lv2 := [some (.ref (ad 15)), some (.int a1), some (.int p2.1), some (.int v8), some (.int t3.2)]) dX5_drawDream_36 rfl (by decide) rfl ?_
      refine xr_iload_n B dX5_drawDream_37 rfl rfl ?_
      refine xr_iload_n B dX5_drawDream_38 rfl rfl ?_
      refine xr_ic_le B (tgt := 45) dX5_drawDream_39 (by decide) hf (fun _ hf => ?_) (fun _ hf => ?_)
      · refine xr_iinc B (v := (t3.2 + 1)) (lv2 := [some (.ref (ad 15)), some (.int a1), some (.int p2.1), some (.int v8), some (.int (t3.2 + 1))]) dX5_drawDream_45 rfl (congrArg (t3.2 + ·) (by decide : Int32.ofInt (1) = 1)) (by decide) rfl ?_
        refine xr_goto B (tgt := 18) dX5_drawDream_48 (by decide) ?_
        exact hrec4 v8 (t3.2 + 1) hf
      · refine xr_iload B dX5_drawDream_42 rfl ?_
        obtain rfl := Option.some.inj hf
        exact RR _ _ _ dX5_drawDream_44 rfl

noncomputable def xf_X5_sleepOnce_L2  (K4 : xr_S → Option xr_S) (t1 : (Int32 × xr_S)) (rec2 : (Int32 × xr_S) → Option xr_S) : Option xr_S := if (t1.2.1 9 2) ≤ t1.1 then (K4 t1.2) else ((xf_X5_isAwake t1.2 t1.1).bind (fun v5 => xr_jn (fun (w6 : xr_S) => rec2 ((t1.1 + 1), w6)) (fun j7 => if v5 = 0 then ((xf_X5_drawDream t1.2 t1.1).bind (fun p9 => (xf_X5_loafOn p9.2 t1.1).bind (fun v10 => if v10 = (-1) then (j7 p9.2) else (xr_st p9.2 19 7 v10 p9.1 (fun s11 => xr_st s11 18 7 v10 (-1) (fun s12 => j7 s12)))))) else (j7 t1.2))))
noncomputable def xf_X5_sleepOnce (σ : xr_S) : Option xr_S := xr_lw (xf_X5_sleepOnce_L2 (fun (e3 : xr_S) => xr_pf e3 15 5 ((e3.1 15 5) + 1) (fun s13 => some s13))) (0, σ)
set_option maxRecDepth 100000 in
set_option maxHeartbeats 4000000 in
theorem xc_X5_sleepOnce (l : Launch) (D : va_G) (ad : Nat → Nat) (ca : Nat → ClassId) (σ : xr_S) (q : xr_S) (hf : xf_X5_sleepOnce σ = some q) : xr_M l D ad ca yX5_sleepOnce cX5_sleepOnce 5 none 2 47 [.ref (ad 15), .ref (ad 9)] σ none q := by
  refine xr_openV [some (.ref (ad 15)), some (.ref (ad 9)), none, none, none] xm_X5_sleepOnce (Nat.le_of_ble_eq_true rfl) rfl (fun J B RR => ?_)
  unfold xf_X5_sleepOnce at hf
  refine xr_iconst B (v := 0) dX5_sleepOnce_0 (by decide) ?_
  refine xr_istore_n B (lv2 := [some (.ref (ad 15)), some (.ref (ad 9)), some (.int 0), none, none]) dX5_sleepOnce_1 rfl (by decide) rfl ?_
  refine xq_loop (fun (t1 : (Int32 × xr_S)) => J 2 [some (.ref (ad 15)), some (.ref (ad 9)), some (.int t1.1), none, none] [] t1.2) (fun (e3 : xr_S) => J 59 [some (.ref (ad 15)), none, none, none, none] [] e3) hf (fun e3 hf => ?_) (fun K4 hK4 t1 rec2 hrec2 hf => ?_)
  · refine xr_aload_n B dX5_sleepOnce_59 rfl rfl ?_
    refine xr_dup B dX5_sleepOnce_60 rfl ?_
    refine xr_getI B xg_X5_45 xh_15 rfl dX5_sleepOnce_61 ?_
    refine xr_iconst B (v := 1) dX5_sleepOnce_64 (by decide) ?_
    refine xr_iadd B dX5_sleepOnce_65 ?_
    refine xq_put B xp_X5_45 rfl rfl xh_15 rfl dX5_sleepOnce_66 hf (fun s13 hf => ?_)
    obtain rfl := Option.some.inj hf
    exact RR _ _ dX5_sleepOnce_69 rfl
  · have hrec2 : ∀ (b1 : Int32) (b2 : xr_S), rec2 (b1, b2) = some q → J 2 [some (.ref (ad 15)), some (.ref (ad 9)), some (.int b1), none, none] [] b2 := fun b1 b2 h => hrec2 (b1, b2) h
    unfold xf_X5_sleepOnce_L2 at hf
    refine xr_iload_n B dX5_sleepOnce_2 rfl rfl ?_
    refine xr_aload_n B dX5_sleepOnce_3 rfl rfl ?_
    refine xr_getI B xg_X5_79 xh_9 rfl dX5_sleepOnce_4 ?_
    refine xr_ic_ge B (tgt := 59) dX5_sleepOnce_7 (by decide) hf (fun _ hf => ?_) (fun _ hf => ?_)
    · refine xr_forget B (lv2 := [some (.ref (ad 15)), none, none, none, none]) ⟨rfl, trivial⟩ ?_
      exact hK4 t1.2 hf
    · refine xr_aload_n B dX5_sleepOnce_10 rfl rfl ?_
      refine xr_iload_n B dX5_sleepOnce_11 rfl rfl ?_
      refine xr_cVi B (rest := []) [.int t1.1] xm_X5_isAwake xv_X5_82 (fun q hq => xc_X5_isAwake l D ad ca t1.2 t1.1 q hq) xh_15 rfl rfl (by decide) rfl (Nat.le_of_ble_eq_true rfl) dX5_sleepOnce_12 hf (fun v5 hf => ?_)
      refine xr_meet (fun (w6 : xr_S) => J 53 [some (.ref (ad 15)), some (.ref (ad 9)), some (.int t1.1), none, none] [] w6) hf (fun w6 hf => ?_) (fun j7 hj7 hf => ?_)
      · refine xr_iinc B (v := (t1.1 + 1)) (lv2 := [some (.ref (ad 15)), some (.ref (ad 9)), some (.int (t1.1 + 1)), none, none]) dX5_sleepOnce_53 rfl (congrArg (t1.1 + ·) (by decide : Int32.ofInt (1) = 1)) (by decide) rfl ?_
        refine xr_goto B (tgt := 2) dX5_sleepOnce_56 (by decide) ?_
        exact hrec2 (t1.1 + 1) w6 hf
      · refine xr_if_ne B (tgt := 53) dX5_sleepOnce_15 (by decide) hf (fun _ hf => ?_) (fun _ hf => ?_)
        · refine xr_aload_n B dX5_sleepOnce_18 rfl rfl ?_
          refine xr_iload_n B dX5_sleepOnce_19 rfl rfl ?_
          refine xr_cVI B (rest := []) [.int t1.1] xm_X5_drawDream xv_X5_86 (fun q hq => xc_X5_drawDream l D ad ca t1.2 t1.1 q hq) xh_15 rfl rfl (by decide) rfl (Nat.le_of_ble_eq_true rfl) dX5_sleepOnce_20 hf (fun p9 hf => ?_)
          refine xr_istore_n B (lv2 := [some (.ref (ad 15)), some (.ref (ad 9)), some (.int t1.1), some (.int p9.1), none]) dX5_sleepOnce_23 rfl (by decide) rfl ?_
          refine xr_aload_n B dX5_sleepOnce_24 rfl rfl ?_
          refine xr_iload_n B dX5_sleepOnce_25 rfl rfl ?_
          refine xr_cVi B (rest := []) [.int t1.1] xm_X5_loafOn xv_X5_89 (fun q hq => xc_X5_loafOn l D ad ca p9.2 t1.1 q hq) xh_15 rfl rfl (by decide) rfl (Nat.le_of_ble_eq_true rfl) dX5_sleepOnce_26 hf (fun v10 hf => ?_)
          refine xr_istore B (lv2 := [some (.ref (ad 15)), some (.ref (ad 9)), some (.int t1.1), some (.int p9.1), some (.int v10)]) dX5_sleepOnce_29 (by decide) rfl ?_
          refine xr_iload B dX5_sleepOnce_31 rfl ?_
          refine xr_iconst B (v := (-1)) dX5_sleepOnce_33 (by decide) ?_
          refine xr_ic_eq B (tgt := 53) dX5_sleepOnce_34 (by decide) hf (fun _ hf => ?_) (fun _ hf => ?_)
          · refine xr_forget B (lv2 := [some (.ref (ad 15)), some (.ref (ad 9)), some (.int t1.1), none, none]) ⟨rfl, ⟨rfl, ⟨rfl, trivial⟩⟩⟩ ?_
            exact hj7 p9.2 hf
          · refine xr_aload_n B dX5_sleepOnce_37 rfl rfl ?_
            refine xr_getR B xg_X5_22 xh_15 rfl dX5_sleepOnce_38 ?_
            refine xr_iload B dX5_sleepOnce_41 rfl ?_
            refine xr_iload_n B dX5_sleepOnce_43 rfl rfl ?_
            refine xq_iast B xh_19 dX5_sleepOnce_44 hf (fun s11 hf => ?_)
            refine xr_aload_n B dX5_sleepOnce_45 rfl rfl ?_
            refine xr_getR B xg_X5_18 xh_15 rfl dX5_sleepOnce_46 ?_
            refine xr_iload B dX5_sleepOnce_49 rfl ?_
            refine xr_iconst B (v := (-1)) dX5_sleepOnce_51 (by decide) ?_
            refine xq_iast B xh_18 dX5_sleepOnce_52 hf (fun s12 hf => ?_)
            refine xr_forget B (lv2 := [some (.ref (ad 15)), some (.ref (ad 9)), some (.int t1.1), none, none]) ⟨rfl, ⟨rfl, ⟨rfl, trivial⟩⟩⟩ ?_
            exact hj7 s12 hf
        · exact hj7 t1.2 hf

noncomputable def xf_X5_consume (σ : xr_S) (a1 : Int32) : Option xr_S := xr_jn (fun (w1 : xr_S) => xr_ld w1 19 7 a1 (fun v3 => xr_ld w1 13 7 a1 (fun v4 => xr_jn (fun (w5 : xr_S) => xr_st w5 19 7 a1 (-1) (fun s7 => xr_pf s7 15 3 ((s7.1 15 3) &&& (((1 : Int32) <<< (a1 &&& 31)) ^^^ (-1))) (fun s8 => some s8))) (fun j6 => if v3 = v4 then (xr_ld w1 14 7 a1 (fun v9 => xr_pf w1 15 6 (if ((w1.1 15 6) + v9) < 999999 then ((w1.1 15 6) + v9) else 999999) (fun s10 => j6 s10))) else (j6 w1))))) (fun j2 => if (((σ.1 15 3) >>> (a1 &&& 31)) &&& 1) = 0 then (xr_ld σ 12 7 a1 (fun v11 => xr_ld σ 19 7 a1 (fun v12 => (xf_X9_grow σ 16 v11 v12 (σ.1 9 1)).bind (fun p13 => j2 p13.2)))) else (j2 σ))
set_option maxRecDepth 100000 in
set_option maxHeartbeats 4000000 in
theorem xc_X5_consume (l : Launch) (D : va_G) (ad : Nat → Nat) (ca : Nat → ClassId) (σ : xr_S) (a1 : Int32) (q : xr_S) (hf : xf_X5_consume σ a1 = some q) : xr_M l D ad ca yX5_consume cX5_consume 3 none 2 48 [.ref (ad 15), .ref (ad 9), .int a1] σ none q := by
  refine xr_openV [some (.ref (ad 15)), some (.ref (ad 9)), some (.int a1)] xm_X5_consume (Nat.le_of_ble_eq_true rfl) rfl (fun J B RR => ?_)
  unfold xf_X5_consume at hf
  refine xr_aload_n B dX5_consume_0 rfl rfl ?_
  refine xr_getI B xg_X5_38 xh_15 rfl dX5_consume_1 ?_
  refine xr_iload_n B dX5_consume_4 rfl rfl ?_
  refine xr_ishr B dX5_consume_5 ?_
  refine xr_iconst B (v := 1) dX5_consume_6 (by decide) ?_
  refine xr_iand B dX5_consume_7 ?_
  refine xr_meet (fun (w1 : xr_S) => J 35 [some (.ref (ad 15)), some (.ref (ad 9)), some (.int a1)] [] w1) hf (fun w1 hf => ?_) (fun j2 hj2 hf => ?_)
  · refine xr_aload_n B dX5_consume_35 rfl rfl ?_
    refine xr_getR B xg_X5_22 xh_15 rfl dX5_consume_36 ?_
    refine xr_iload_n B dX5_consume_39 rfl rfl ?_
    refine xq_iald B xh_19 dX5_consume_40 hf (fun v3 hf => ?_)
    refine xr_aload_n B dX5_consume_41 rfl rfl ?_
    refine xr_getR B xg_X5_72 xh_9 rfl dX5_consume_42 ?_
    refine xr_iload_n B dX5_consume_45 rfl rfl ?_
    refine xq_iald B xh_13 dX5_consume_46 hf (fun v4 hf => ?_)
    refine xr_meet (fun (w5 : xr_S) => J 70 [some (.ref (ad 15)), none, some (.int a1)] [] w5) hf (fun w5 hf => ?_) (fun j6 hj6 hf => ?_)
    · refine xr_aload_n B dX5_consume_70 rfl rfl ?_
      refine xr_getR B xg_X5_22 xh_15 rfl dX5_consume_71 ?_
      refine xr_iload_n B dX5_consume_74 rfl rfl ?_
      refine xr_iconst B (v := (-1)) dX5_consume_75 (by decide) ?_
      refine xq_iast B xh_19 dX5_consume_76 hf (fun s7 hf => ?_)
      refine xr_aload_n B dX5_consume_77 rfl rfl ?_
      refine xr_dup B dX5_consume_78 rfl ?_
      refine xr_getI B xg_X5_38 xh_15 rfl dX5_consume_79 ?_
      refine xr_iconst B (v := 1) dX5_consume_82 (by decide) ?_
      refine xr_iload_n B dX5_consume_83 rfl rfl ?_
      refine xr_ishl B dX5_consume_84 ?_
      refine xr_iconst B (v := (-1)) dX5_consume_85 (by decide) ?_
      refine xr_ixor B dX5_consume_86 ?_
      refine xr_iand B dX5_consume_87 ?_
      refine xq_put B xp_X5_38 rfl rfl xh_15 rfl dX5_consume_88 hf (fun s8 hf => ?_)
      obtain rfl := Option.some.inj hf
      exact RR _ _ dX5_consume_91 rfl
    · refine xr_ic_ne B (tgt := 70) dX5_consume_47 (by decide) hf (fun _ hf => ?_) (fun _ hf => ?_)
      · refine xr_aload_n B dX5_consume_50 rfl rfl ?_
        refine xr_ldc B xk_X5_102 dX5_consume_51 ?_
        refine xr_aload_n B dX5_consume_53 rfl rfl ?_
        refine xr_getI B xg_X5_48 xh_15 rfl dX5_consume_54 ?_
        refine xr_aload_n B dX5_consume_57 rfl rfl ?_
        refine xr_getR B xg_X5_69 xh_9 rfl dX5_consume_58 ?_
        refine xr_iload_n B dX5_consume_61 rfl rfl ?_
        refine xq_iald B xh_14 dX5_consume_62 hf (fun v9 hf => ?_)
        refine xr_iadd B dX5_consume_63 ?_
        refine xq_mmin B xs_X5_103 (by decide) (by decide) (Nat.le_of_ble_eq_true rfl) dX5_consume_64 ?_
        refine xq_put B xp_X5_48 rfl rfl xh_15 rfl dX5_consume_67 hf (fun s10 hf => ?_)
        refine xr_forget B (lv2 := [some (.ref (ad 15)), none, some (.int a1)]) ⟨rfl, ⟨rfl, trivial⟩⟩ ?_
        exact hj6 s10 hf
      · refine xr_forget B (lv2 := [some (.ref (ad 15)), none, some (.int a1)]) ⟨rfl, ⟨rfl, trivial⟩⟩ ?_
        exact hj6 w1 hf
  · refine xr_if_ne B (tgt := 35) dX5_consume_8 (by decide) hf (fun _ hf => ?_) (fun _ hf => ?_)
    · refine xr_aload_n B dX5_consume_11 rfl rfl ?_
      refine xr_getR B xg_X5_12 xh_15 rfl dX5_consume_12 ?_
      refine xr_aload_n B dX5_consume_15 rfl rfl ?_
      refine xr_getR B xg_X5_92 xh_9 rfl dX5_consume_16 ?_
      refine xr_iload_n B dX5_consume_19 rfl rfl ?_
      refine xq_iald B xh_12 dX5_consume_20 hf (fun v11 hf => ?_)
      refine xr_aload_n B dX5_consume_21 rfl rfl ?_
      refine xr_getR B xg_X5_22 xh_15 rfl dX5_consume_22 ?_
      refine xr_iload_n B dX5_consume_25 rfl rfl ?_
      refine xq_iald B xh_19 dX5_consume_26 hf (fun v12 hf => ?_)
      refine xr_aload_n B dX5_consume_27 rfl rfl ?_
      refine xr_getI B xg_X5_95 xh_9 rfl dX5_consume_28 ?_
      refine xr_cVI B (rest := []) [.int v11, .int v12, .int (σ.1 9 1)] xm_X9_grow xv_X5_98 (fun q hq => xc_X9_grow l D ad ca σ 16 v11 v12 (σ.1 9 1) ⟨xh_16, xh_17⟩ q hq) xh_16 rfl rfl (by decide) rfl (Nat.le_of_ble_eq_true rfl) dX5_consume_31 hf (fun p13 hf => ?_)
      refine xr_pop B dX5_consume_34 rfl ?_
      exact hj2 p13.2 hf
    · exact hj2 σ hf
