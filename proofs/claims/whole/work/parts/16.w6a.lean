noncomputable def xf_X11_in (σ : xr_S) (a1 : Int64) (a2 : Int64) (a3 : Int64) : Option Int32 := if (lg_cmp a1 a2) < 0 then (some 0) else (if 0 < (lg_cmp a1 a3) then (some 0) else (some 1))
set_option maxRecDepth 100000 in
set_option maxHeartbeats 4000000 in
theorem xc_X11_in (l : Launch) (D : va_G) (ad : Nat → Nat) (ca : Nat → ClassId) (σ : xr_S) (a1 : Int64) (a2 : Int64) (a3 : Int64) (q : Int32) (hf : xf_X11_in σ a1 a2 a3 = some q) : xr_M l D ad ca yX11_in cX11_in 6 (some .boolean) 0 0 [.long a1, .long a2, .long a3] σ (some (.int q)) σ := by
  refine xr_openZ [some (.long a1), none, some (.long a2), none, some (.long a3), none] xm_X11_in (Nat.le_of_ble_eq_true rfl) rfl (fun J B RR => ?_)
  unfold xf_X11_in at hf
  refine xr_lload_n B dX11_in_0 rfl rfl ?_
  refine xr_lload_n B dX11_in_1 rfl rfl ?_
  refine xr_lcmp B dX11_in_2 ?_
  refine xr_if_lt B (tgt := 17) dX11_in_3 (by decide) hf (fun _ hf => ?_) (fun _ hf => ?_)
  · refine xr_iconst B (v := 0) dX11_in_17 (by decide) ?_
    obtain rfl := Option.some.inj hf
    exact RR _ _ _ (by decide) dX11_in_18 rfl
  · refine xr_lload_n B dX11_in_6 rfl rfl ?_
    refine xr_lload B dX11_in_7 rfl ?_
    refine xr_lcmp B dX11_in_9 ?_
    refine xr_if_gt B (tgt := 17) dX11_in_10 (by decide) hf (fun _ hf => ?_) (fun _ hf => ?_)
    · refine xr_iconst B (v := 0) dX11_in_17 (by decide) ?_
      obtain rfl := Option.some.inj hf
      exact RR _ _ _ (by decide) dX11_in_18 rfl
    · refine xr_iconst B (v := 1) dX11_in_13 (by decide) ?_
      refine xr_goto B (tgt := 18) dX11_in_14 (by decide) ?_
      obtain rfl := Option.some.inj hf
      exact RR _ _ _ (by decide) dX11_in_18 rfl

noncomputable def xf_X11_has (σ : xr_S) (a1 : Int32) (a2 : Int32) : Option Int32 := if ((a1 >>> (a2 &&& 31)) &&& 1) = 1 then (some 1) else (some 0)
set_option maxRecDepth 100000 in
set_option maxHeartbeats 4000000 in
theorem xc_X11_has (l : Launch) (D : va_G) (ad : Nat → Nat) (ca : Nat → ClassId) (σ : xr_S) (a1 : Int32) (a2 : Int32) (q : Int32) (hf : xf_X11_has σ a1 a2 = some q) : xr_M l D ad ca yX11_has cX11_has 2 (some .boolean) 0 0 [.int a1, .int a2] σ (some (.int q)) σ := by
  refine xr_openZ [some (.int a1), some (.int a2)] xm_X11_has (Nat.le_of_ble_eq_true rfl) rfl (fun J B RR => ?_)
  unfold xf_X11_has at hf
  refine xr_iload_n B dX11_has_0 rfl rfl ?_
  refine xr_iload_n B dX11_has_1 rfl rfl ?_
  refine xr_ishr B dX11_has_2 ?_
  refine xr_iconst B (v := 1) dX11_has_3 (by decide) ?_
  refine xr_iand B dX11_has_4 ?_
  refine xr_iconst B (v := 1) dX11_has_5 (by decide) ?_
  refine xr_ic_ne B (tgt := 13) dX11_has_6 (by decide) hf (fun _ hf => ?_) (fun _ hf => ?_)
  · refine xr_iconst B (v := 1) dX11_has_9 (by decide) ?_
    refine xr_goto B (tgt := 14) dX11_has_10 (by decide) ?_
    obtain rfl := Option.some.inj hf
    exact RR _ _ _ (by decide) dX11_has_14 rfl
  · refine xr_iconst B (v := 0) dX11_has_13 (by decide) ?_
    obtain rfl := Option.some.inj hf
    exact RR _ _ _ (by decide) dX11_has_14 rfl

noncomputable def xf_X11_ones_L4 (a1 : Int32) (K4 : Int32 → Option Int32) (t1 : (Int32 × Int32)) (rec2 : (Int32 × Int32) → Option Int32) : Option Int32 := if 7 ≤ t1.2 then (K4 t1.1) else (xr_v ((t1.1 + ((a1 >>> (t1.2 &&& 31)) &&& 1))) (fun v5 => rec2 (v5, (t1.2 + 1))))
noncomputable def xf_X11_ones (σ : xr_S) (a1 : Int32) : Option Int32 := xr_lw (xf_X11_ones_L4 a1 (fun (e3 : Int32) => some e3)) (0, 0)
set_option maxRecDepth 100000 in
set_option maxHeartbeats 4000000 in
theorem xc_X11_ones (l : Launch) (D : va_G) (ad : Nat → Nat) (ca : Nat → ClassId) (σ : xr_S) (a1 : Int32) (q : Int32) (hf : xf_X11_ones σ a1 = some q) : xr_M l D ad ca yX11_ones cX11_ones 3 (some .int) 0 0 [.int a1] σ (some (.int q)) σ := by
  refine xr_openI [some (.int a1), none, none] xm_X11_ones (Nat.le_of_ble_eq_true rfl) rfl (fun J B RR => ?_)
  unfold xf_X11_ones at hf
  refine xr_iconst B (v := 0) dX11_ones_0 (by decide) ?_
  refine xr_istore_n B (lv2 := [some (.int a1), some (.int 0), none]) dX11_ones_1 rfl (by decide) rfl ?_
  refine xr_iconst B (v := 0) dX11_ones_2 (by decide) ?_
  refine xr_istore_n B (lv2 := [some (.int a1), some (.int 0), some (.int 0)]) dX11_ones_3 rfl (by decide) rfl ?_
  refine xq_loop (fun (t1 : (Int32 × Int32)) => J 4 [some (.int a1), some (.int t1.1), some (.int t1.2)] [] σ) (fun (e3 : Int32) => J 24 [none, some (.int e3), none] [] σ) hf (fun e3 hf => ?_) (fun K4 hK4 t1 rec2 hrec2 hf => ?_)
  · refine xr_iload_n B dX11_ones_24 rfl rfl ?_
    obtain rfl := Option.some.inj hf
    exact RR _ _ _ dX11_ones_25 rfl
  · have hrec2 : ∀ (b1 : Int32) (b2 : Int32), rec2 (b1, b2) = some q → J 4 [some (.int a1), some (.int b1), some (.int b2)] [] σ := fun b1 b2 h => hrec2 (b1, b2) h
    unfold xf_X11_ones_L4 at hf
    refine xr_iload_n B dX11_ones_4 rfl rfl ?_
    refine xr_bipush B (v := 7) dX11_ones_5 (by decide) ?_
    refine xr_ic_ge B (tgt := 24) dX11_ones_7 (by decide) hf (fun _ hf => ?_) (fun _ hf => ?_)
    · refine xr_forget B (lv2 := [none, some (.int t1.1), none]) ⟨rfl, trivial⟩ ?_
      exact hK4 t1.1 hf
    · refine xr_iload_n B dX11_ones_10 rfl rfl ?_
      refine xr_iload_n B dX11_ones_11 rfl rfl ?_
      refine xr_iload_n B dX11_ones_12 rfl rfl ?_
      refine xr_ishr B dX11_ones_13 ?_
      refine xr_iconst B (v := 1) dX11_ones_14 (by decide) ?_
      refine xr_iand B dX11_ones_15 ?_
      refine xr_iadd B dX11_ones_16 ?_
      refine xr_top _ hf (fun v5 hf => ?_)
      refine xr_istore_n B (lv2 := [some (.int a1), some (.int v5), some (.int t1.2)]) dX11_ones_17 rfl (by decide) rfl ?_
      refine xr_iinc B (v := (t1.2 + 1)) (lv2 := [some (.int a1), some (.int v5), some (.int (t1.2 + 1))]) dX11_ones_18 rfl (congrArg (t1.2 + ·) (by decide : Int32.ofInt (1) = 1)) (by decide) rfl ?_
      refine xr_goto B (tgt := 4) dX11_ones_21 (by decide) ?_
      exact hrec2 v5 (t1.2 + 1) hf

noncomputable def xf_X11_copy_L2 (a1 : Int32) (a2 : Int32) (K4 : xr_S → Option xr_S) (t1 : (Int32 × xr_S)) (rec2 : (Int32 × xr_S) → Option xr_S) : Option xr_S := if 55 ≤ t1.1 then (K4 t1.2) else (xr_ld t1.2 50 220 (a1 + t1.1) (fun v5 => xr_st t1.2 50 220 (a2 + t1.1) v5 (fun s6 => rec2 ((t1.1 + 1), s6))))
noncomputable def xf_X11_copy (σ : xr_S) (a1 : Int32) (a2 : Int32) : Option xr_S := xr_lw (xf_X11_copy_L2 a1 a2 (fun (e3 : xr_S) => some e3)) (0, σ)
set_option maxRecDepth 100000 in
set_option maxHeartbeats 4000000 in
theorem xc_X11_copy (l : Launch) (D : va_G) (ad : Nat → Nat) (ca : Nat → ClassId) (σ : xr_S) (a1 : Int32) (a2 : Int32) (q : xr_S) (hf : xf_X11_copy σ a1 a2 = some q) : xr_M l D ad ca yX11_copy cX11_copy 4 none 0 0 [.ref (ad 49), .int a1, .int a2] σ none q := by
  refine xr_openV [some (.ref (ad 49)), some (.int a1), some (.int a2), none] xm_X11_copy (Nat.le_of_ble_eq_true rfl) rfl (fun J B RR => ?_)
  unfold xf_X11_copy at hf
  refine xr_iconst B (v := 0) dX11_copy_0 (by decide) ?_
  refine xr_istore_n B (lv2 := [some (.ref (ad 49)), some (.int a1), some (.int a2), some (.int 0)]) dX11_copy_1 rfl (by decide) rfl ?_
  refine xq_loop (fun (t1 : (Int32 × xr_S)) => J 2 [some (.ref (ad 49)), some (.int a1), some (.int a2), some (.int t1.1)] [] t1.2) (fun (e3 : xr_S) => J 30 [none, none, none, none] [] e3) hf (fun e3 hf => ?_) (fun K4 hK4 t1 rec2 hrec2 hf => ?_)
  · obtain rfl := Option.some.inj hf
    exact RR _ _ dX11_copy_30 rfl
  · have hrec2 : ∀ (b1 : Int32) (b2 : xr_S), rec2 (b1, b2) = some q → J 2 [some (.ref (ad 49)), some (.int a1), some (.int a2), some (.int b1)] [] b2 := fun b1 b2 h => hrec2 (b1, b2) h
    unfold xf_X11_copy_L2 at hf
    refine xr_iload_n B dX11_copy_2 rfl rfl ?_
    refine xr_bipush B (v := 55) dX11_copy_3 (by decide) ?_
    refine xr_ic_ge B (tgt := 30) dX11_copy_5 (by decide) hf (fun _ hf => ?_) (fun _ hf => ?_)
    · refine xr_forget B (lv2 := [none, none, none, none]) trivial ?_
      exact hK4 t1.2 hf
    · refine xr_aload_n B dX11_copy_8 rfl rfl ?_
      refine xr_getR B xg_X11_7 xh_49 rfl dX11_copy_9 ?_
      refine xr_iload_n B dX11_copy_12 rfl rfl ?_
      refine xr_iload_n B dX11_copy_13 rfl rfl ?_
      refine xr_iadd B dX11_copy_14 ?_
      refine xr_aload_n B dX11_copy_15 rfl rfl ?_
      refine xr_getR B xg_X11_7 xh_49 rfl dX11_copy_16 ?_
      refine xr_iload_n B dX11_copy_19 rfl rfl ?_
      refine xr_iload_n B dX11_copy_20 rfl rfl ?_
      refine xr_iadd B dX11_copy_21 ?_
      refine xq_iald B xh_50 dX11_copy_22 hf (fun v5 hf => ?_)
      refine xq_iast B xh_50 dX11_copy_23 hf (fun s6 hf => ?_)
      refine xr_iinc B (v := (t1.1 + 1)) (lv2 := [some (.ref (ad 49)), some (.int a1), some (.int a2), some (.int (t1.1 + 1))]) dX11_copy_24 rfl (congrArg (t1.1 + ·) (by decide : Int32.ofInt (1) = 1)) (by decide) rfl ?_
      refine xr_goto B (tgt := 2) dX11_copy_27 (by decide) ?_
      exact hrec2 (t1.1 + 1) s6 hf

noncomputable def xf_X11_begins_L10  (K5 : xr_S → Option xr_S) (t2 : (Int32 × xr_S)) (rec3 : (Int32 × xr_S) → Option xr_S) : Option xr_S := if 55 ≤ t2.1 then (K5 t2.2) else (xr_st t2.2 50 220 t2.1 0 (fun s6 => rec3 ((t2.1 + 1), s6)))
noncomputable def xf_X11_begins_L31  (K11 : xr_S → Option xr_S) (t8 : (Int32 × xr_S)) (rec9 : (Int32 × xr_S) → Option xr_S) : Option xr_S := if 7 ≤ t8.1 then (K11 t8.2) else (xr_st t8.2 50 220 (30 + t8.1) (-1) (fun s12 => xr_st s12 50 220 (37 + t8.1) (-1) (fun s13 => rec9 ((t8.1 + 1), s13))))
noncomputable def xf_X11_begins (σ : xr_S) : Option xr_S := xr_ld σ 50 220 54 (fun v1 => xr_lw (xf_X11_begins_L10 (fun (e4 : xr_S) => xr_lw (xf_X11_begins_L31 (fun (e10 : xr_S) => xr_st e10 50 220 54 v1 (fun s15 => some s15))) (0, e4))) (0, σ))
set_option maxRecDepth 100000 in
set_option maxHeartbeats 4000000 in
theorem xc_X11_begins (l : Launch) (D : va_G) (ad : Nat → Nat) (ca : Nat → ClassId) (σ : xr_S) (q : xr_S) (hf : xf_X11_begins σ = some q) : xr_M l D ad ca yX11_begins cX11_begins 3 none 0 0 [.ref (ad 49)] σ none q := by
  refine xr_openV [some (.ref (ad 49)), none, none] xm_X11_begins (Nat.le_of_ble_eq_true rfl) rfl (fun J B RR => ?_)
  unfold xf_X11_begins at hf
  refine xr_aload_n B dX11_begins_0 rfl rfl ?_
  refine xr_getR B xg_X11_7 xh_49 rfl dX11_begins_1 ?_
  refine xr_bipush B (v := 54) dX11_begins_4 (by decide) ?_
  refine xq_iald B xh_50 dX11_begins_6 hf (fun v1 hf => ?_)
  refine xr_istore_n B (lv2 := [some (.ref (ad 49)), some (.int v1), none]) dX11_begins_7 rfl (by decide) rfl ?_
  refine xr_iconst B (v := 0) dX11_begins_8 (by decide) ?_
  refine xr_istore_n B (lv2 := [some (.ref (ad 49)), some (.int v1), some (.int 0)]) dX11_begins_9 rfl (by decide) rfl ?_
  refine xq_loop (fun (t2 : (Int32 × xr_S)) => J 10 [some (.ref (ad 49)), some (.int v1), some (.int t2.1)] [] t2.2) (fun (e4 : xr_S) => J 29 [some (.ref (ad 49)), some (.int v1), none] [] e4) hf (fun e4 hf => ?_) (fun K5 hK5 t2 rec3 hrec3 hf => ?_)
  · refine xr_iconst B (v := 0) dX11_begins_29 (by decide) ?_
    refine xr_istore_n B (lv2 := [some (.ref (ad 49)), some (.int v1), some (.int 0)]) dX11_begins_30 rfl (by decide) rfl ?_
    refine xq_loop (fun (t8 : (Int32 × xr_S)) => J 31 [some (.ref (ad 49)), some (.int v1), some (.int t8.1)] [] t8.2) (fun (e10 : xr_S) => J 63 [some (.ref (ad 49)), some (.int v1), none] [] e10) hf (fun e10 hf => ?_) (fun K11 hK11 t8 rec9 hrec9 hf => ?_)
    · refine xr_aload_n B dX11_begins_63 rfl rfl ?_
      refine xr_getR B xg_X11_7 xh_49 rfl dX11_begins_64 ?_
      refine xr_bipush B (v := 54) dX11_begins_67 (by decide) ?_
      refine xr_iload_n B dX11_begins_69 rfl rfl ?_
      refine xq_iast B xh_50 dX11_begins_70 hf (fun s15 hf => ?_)
      obtain rfl := Option.some.inj hf
      exact RR _ _ dX11_begins_71 rfl
    · have hrec9 : ∀ (b1 : Int32) (b2 : xr_S), rec9 (b1, b2) = some q → J 31 [some (.ref (ad 49)), some (.int v1), some (.int b1)] [] b2 := fun b1 b2 h => hrec9 (b1, b2) h
      unfold xf_X11_begins_L31 at hf
      refine xr_iload_n B dX11_begins_31 rfl rfl ?_
      refine xr_bipush B (v := 7) dX11_begins_32 (by decide) ?_
      refine xr_ic_ge B (tgt := 63) dX11_begins_34 (by decide) hf (fun _ hf => ?_) (fun _ hf => ?_)
      · refine xr_forget B (lv2 := [some (.ref (ad 49)), some (.int v1), none]) ⟨rfl, ⟨rfl, trivial⟩⟩ ?_
        exact hK11 t8.2 hf
      · refine xr_aload_n B dX11_begins_37 rfl rfl ?_
        refine xr_getR B xg_X11_7 xh_49 rfl dX11_begins_38 ?_
        refine xr_bipush B (v := 30) dX11_begins_41 (by decide) ?_
        refine xr_iload_n B dX11_begins_43 rfl rfl ?_
        refine xr_iadd B dX11_begins_44 ?_
        refine xr_iconst B (v := (-1)) dX11_begins_45 (by decide) ?_
        refine xq_iast B xh_50 dX11_begins_46 hf (fun s12 hf => ?_)
        refine xr_aload_n B dX11_begins_47 rfl rfl ?_
        refine xr_getR B xg_X11_7 xh_49 rfl dX11_begins_48 ?_
        refine xr_bipush B (v := 37) dX11_begins_51 (by decide) ?_
        refine xr_iload_n B dX11_begins_53 rfl rfl ?_
        refine xr_iadd B dX11_begins_54 ?_
        refine xr_iconst B (v := (-1)) dX11_begins_55 (by decide) ?_
        refine xq_iast B xh_50 dX11_begins_56 hf (fun s13 hf => ?_)
        refine xr_iinc B (v := (t8.1 + 1)) (lv2 := [some (.ref (ad 49)), some (.int v1), some (.int (t8.1 + 1))]) dX11_begins_57 rfl (congrArg (t8.1 + ·) (by decide : Int32.ofInt (1) = 1)) (by decide) rfl ?_
        refine xr_goto B (tgt := 31) dX11_begins_60 (by decide) ?_
        exact hrec9 (t8.1 + 1) s13 hf
  · have hrec3 : ∀ (b1 : Int32) (b2 : xr_S), rec3 (b1, b2) = some q → J 10 [some (.ref (ad 49)), some (.int v1), some (.int b1)] [] b2 := fun b1 b2 h => hrec3 (b1, b2) h
    unfold xf_X11_begins_L10 at hf
    refine xr_iload_n B dX11_begins_10 rfl rfl ?_
    refine xr_bipush B (v := 55) dX11_begins_11 (by decide) ?_
    refine xr_ic_ge B (tgt := 29) dX11_begins_13 (by decide) hf (fun _ hf => ?_) (fun _ hf => ?_)
    · refine xr_forget B (lv2 := [some (.ref (ad 49)), some (.int v1), none]) ⟨rfl, ⟨rfl, trivial⟩⟩ ?_
      exact hK5 t2.2 hf
    · refine xr_aload_n B dX11_begins_16 rfl rfl ?_
      refine xr_getR B xg_X11_7 xh_49 rfl dX11_begins_17 ?_
      refine xr_iload_n B dX11_begins_20 rfl rfl ?_
      refine xr_iconst B (v := 0) dX11_begins_21 (by decide) ?_
      refine xq_iast B xh_50 dX11_begins_22 hf (fun s6 hf => ?_)
      refine xr_iinc B (v := (t2.1 + 1)) (lv2 := [some (.ref (ad 49)), some (.int v1), some (.int (t2.1 + 1))]) dX11_begins_23 rfl (congrArg (t2.1 + ·) (by decide : Int32.ofInt (1) = 1)) (by decide) rfl ?_
      refine xr_goto B (tgt := 10) dX11_begins_26 (by decide) ?_
      exact hrec3 (t2.1 + 1) s6 hf

noncomputable def xf_X11_isSleeper (σ : xr_S) (a1 : Int32) : Option Int32 := (xf_X11_in σ (Int32.toInt64 a1) 0 (Int32.toInt64 ((σ.1 49 4) - 1))).bind (fun v1 => xr_zb v1 (some v1))
set_option maxRecDepth 100000 in
set_option maxHeartbeats 4000000 in
theorem xc_X11_isSleeper (l : Launch) (D : va_G) (ad : Nat → Nat) (ca : Nat → ClassId) (σ : xr_S) (a1 : Int32) (q : Int32) (hf : xf_X11_isSleeper σ a1 = some q) : xr_M l D ad ca yX11_isSleeper cX11_isSleeper 2 (some .boolean) 1 25 [.ref (ad 49), .int a1] σ (some (.int q)) σ := by
  refine xr_openZ [some (.ref (ad 49)), some (.int a1)] xm_X11_isSleeper (Nat.le_of_ble_eq_true rfl) rfl (fun J B RR => ?_)
  unfold xf_X11_isSleeper at hf
  refine xr_iload_n B dX11_isSleeper_0 rfl rfl ?_
  refine xr_i2l B dX11_isSleeper_1 ?_
  refine xr_lconst B (v := 0) dX11_isSleeper_2 (by decide) ?_
  refine xr_aload_n B dX11_isSleeper_3 rfl rfl ?_
  refine xr_getI B xg_X11_73 xh_49 rfl dX11_isSleeper_4 ?_
  refine xr_iconst B (v := 1) dX11_isSleeper_7 (by decide) ?_
  refine xr_isub B dX11_isSleeper_8 ?_
  refine xr_i2l B dX11_isSleeper_9 ?_
  refine xr_cSi B (rest := []) [.long (Int32.toInt64 a1), .long 0, .long (Int32.toInt64 ((σ.1 49 4) - 1))] xm_X11_in xs_X11_76 (fun q hq => xc_X11_in l D ad ca σ (Int32.toInt64 a1) 0 (Int32.toInt64 ((σ.1 49 4) - 1)) q hq) rfl (by decide) rfl (Nat.le_of_ble_eq_true rfl) dX11_isSleeper_10 hf (fun v1 hf => ?_)
  obtain ⟨hz, hf⟩ := xq_zb hf
  obtain rfl := Option.some.inj hf
  exact RR _ _ _ hz dX11_isSleeper_13 rfl

noncomputable def xf_X11_isDream (σ : xr_S) (a1 : Int32) : Option Int32 := (xf_X11_in σ (Int32.toInt64 a1) 0 (Int32.toInt64 ((σ.1 49 2) - 1))).bind (fun v1 => xr_zb v1 (some v1))
set_option maxRecDepth 100000 in
set_option maxHeartbeats 4000000 in
theorem xc_X11_isDream (l : Launch) (D : va_G) (ad : Nat → Nat) (ca : Nat → ClassId) (σ : xr_S) (a1 : Int32) (q : Int32) (hf : xf_X11_isDream σ a1 = some q) : xr_M l D ad ca yX11_isDream cX11_isDream 2 (some .boolean) 1 25 [.ref (ad 49), .int a1] σ (some (.int q)) σ := by
  refine xr_openZ [some (.ref (ad 49)), some (.int a1)] xm_X11_isDream (Nat.le_of_ble_eq_true rfl) rfl (fun J B RR => ?_)
  unfold xf_X11_isDream at hf
  refine xr_iload_n B dX11_isDream_0 rfl rfl ?_
  refine xr_i2l B dX11_isDream_1 ?_
  refine xr_lconst B (v := 0) dX11_isDream_2 (by decide) ?_
  refine xr_aload_n B dX11_isDream_3 rfl rfl ?_
  refine xr_getI B xg_X11_80 xh_49 rfl dX11_isDream_4 ?_
  refine xr_iconst B (v := 1) dX11_isDream_7 (by decide) ?_
  refine xr_isub B dX11_isDream_8 ?_
  refine xr_i2l B dX11_isDream_9 ?_
  refine xr_cSi B (rest := []) [.long (Int32.toInt64 a1), .long 0, .long (Int32.toInt64 ((σ.1 49 2) - 1))] xm_X11_in xs_X11_76 (fun q hq => xc_X11_in l D ad ca σ (Int32.toInt64 a1) 0 (Int32.toInt64 ((σ.1 49 2) - 1)) q hq) rfl (by decide) rfl (Nat.le_of_ble_eq_true rfl) dX11_isDream_10 hf (fun v1 hf => ?_)
  obtain ⟨hz, hf⟩ := xq_zb hf
  obtain rfl := Option.some.inj hf
  exact RR _ _ _ hz dX11_isDream_13 rfl

noncomputable def xf_X11_isLoaf (σ : xr_S) (a1 : Int32) : Option Int32 := (xf_X11_in σ (Int32.toInt64 a1) 0 (Int32.toInt64 ((σ.1 49 5) - 1))).bind (fun v1 => xr_zb v1 (some v1))
set_option maxRecDepth 100000 in
set_option maxHeartbeats 4000000 in
theorem xc_X11_isLoaf (l : Launch) (D : va_G) (ad : Nat → Nat) (ca : Nat → ClassId) (σ : xr_S) (a1 : Int32) (q : Int32) (hf : xf_X11_isLoaf σ a1 = some q) : xr_M l D ad ca yX11_isLoaf cX11_isLoaf 2 (some .boolean) 1 25 [.ref (ad 49), .int a1] σ (some (.int q)) σ := by
  refine xr_openZ [some (.ref (ad 49)), some (.int a1)] xm_X11_isLoaf (Nat.le_of_ble_eq_true rfl) rfl (fun J B RR => ?_)
  unfold xf_X11_isLoaf at hf
  refine xr_iload_n B dX11_isLoaf_0 rfl rfl ?_
  refine xr_i2l B dX11_isLoaf_1 ?_
  refine xr_lconst B (v := 0) dX11_isLoaf_2 (by decide) ?_
  refine xr_aload_n B dX11_isLoaf_3 rfl rfl ?_
  refine xr_getI B xg_X11_83 xh_49 rfl dX11_isLoaf_4 ?_
  refine xr_iconst B (v := 1) dX11_isLoaf_7 (by decide) ?_
  refine xr_isub B dX11_isLoaf_8 ?_
  refine xr_i2l B dX11_isLoaf_9 ?_
  refine xr_cSi B (rest := []) [.long (Int32.toInt64 a1), .long 0, .long (Int32.toInt64 ((σ.1 49 5) - 1))] xm_X11_in xs_X11_76 (fun q hq => xc_X11_in l D ad ca σ (Int32.toInt64 a1) 0 (Int32.toInt64 ((σ.1 49 5) - 1)) q hq) rfl (by decide) rfl (Nat.le_of_ble_eq_true rfl) dX11_isLoaf_10 hf (fun v1 hf => ?_)
  obtain ⟨hz, hf⟩ := xq_zb hf
  obtain rfl := Option.some.inj hf
  exact RR _ _ _ hz dX11_isLoaf_13 rfl

noncomputable def xf_X11_feed (σ : xr_S) (a1 : Int32) : Option (Int32 × xr_S) := (xf_X11_in σ (Int32.toInt64 a1) 0 255).bind (fun v1 => if v1 = 0 then (some ((-1000000002), σ)) else (if (σ.1 49 11) = 240 then (some ((-1000000004), σ)) else (xr_st σ 55 240 (σ.1 49 11) a1 (fun s2 => xr_pf s2 49 11 ((s2.1 49 11) + 1) (fun s3 => some ((s3.1 49 11), s3))))))
set_option maxRecDepth 100000 in
set_option maxHeartbeats 4000000 in
theorem xc_X11_feed (l : Launch) (D : va_G) (ad : Nat → Nat) (ca : Nat → ClassId) (σ : xr_S) (a1 : Int32) (q : (Int32 × xr_S)) (hf : xf_X11_feed σ a1 = some q) : xr_M l D ad ca yX11_feed cX11_feed 2 (some .int) 1 25 [.ref (ad 49), .int a1] σ (some (.int q.1)) q.2 := by
  refine xr_openI [some (.ref (ad 49)), some (.int a1)] xm_X11_feed (Nat.le_of_ble_eq_true rfl) rfl (fun J B RR => ?_)
  unfold xf_X11_feed at hf
  refine xr_iload_n B dX11_feed_0 rfl rfl ?_
  refine xr_i2l B dX11_feed_1 ?_
  refine xr_lconst B (v := 0) dX11_feed_2 (by decide) ?_
  refine xr_ldc2 B xl_X11_86 dX11_feed_3 ?_
  refine xr_cSi B (rest := []) [.long (Int32.toInt64 a1), .long 0, .long 255] xm_X11_in xs_X11_76 (fun q hq => xc_X11_in l D ad ca σ (Int32.toInt64 a1) 0 255 q hq) rfl (by decide) rfl (Nat.le_of_ble_eq_true rfl) dX11_feed_6 hf (fun v1 hf => ?_)
  refine xr_if_ne B (tgt := 15) dX11_feed_9 (by decide) hf (fun _ hf => ?_) (fun _ hf => ?_)
  · refine xr_ldc B xk_X11_88 dX11_feed_12 ?_
    obtain rfl := Option.some.inj hf
    exact RR _ _ _ dX11_feed_14 rfl
  · refine xr_aload_n B dX11_feed_15 rfl rfl ?_
    refine xr_getI B xg_X11_89 xh_49 rfl dX11_feed_16 ?_
    refine xr_sipush B (v := 240) dX11_feed_19 (by decide) ?_
    refine xr_ic_ne B (tgt := 28) dX11_feed_22 (by decide) hf (fun _ hf => ?_) (fun _ hf => ?_)
    · refine xr_ldc B xk_X11_92 dX11_feed_25 ?_
      obtain rfl := Option.some.inj hf
      exact RR _ _ _ dX11_feed_27 rfl
    · refine xr_aload_n B dX11_feed_28 rfl rfl ?_
      refine xr_getR B xg_X11_26 xh_49 rfl dX11_feed_29 ?_
      refine xr_aload_n B dX11_feed_32 rfl rfl ?_
      refine xr_getI B xg_X11_89 xh_49 rfl dX11_feed_33 ?_
      refine xr_iload_n B dX11_feed_36 rfl rfl ?_
      refine xq_iast B xh_55 dX11_feed_37 hf (fun s2 hf => ?_)
      refine xr_aload_n B dX11_feed_38 rfl rfl ?_
      refine xr_dup B dX11_feed_39 rfl ?_
      refine xr_getI B xg_X11_89 xh_49 rfl dX11_feed_40 ?_
      refine xr_iconst B (v := 1) dX11_feed_43 (by decide) ?_
      refine xr_iadd B dX11_feed_44 ?_
      refine xq_put B xp_X11_89 rfl rfl xh_49 rfl dX11_feed_45 hf (fun s3 hf => ?_)
      refine xr_aload_n B dX11_feed_48 rfl rfl ?_
      refine xr_getI B xg_X11_89 xh_49 rfl dX11_feed_49 ?_
      obtain rfl := Option.some.inj hf
      exact RR _ _ _ dX11_feed_52 rfl

noncomputable def xf_X11_letterAt (σ : xr_S) (a1 : Int32) : Option Int32 := if (σ.1 49 11) ≤ a1 then (some (-1)) else (xr_ld σ 55 240 a1 (fun v1 => some v1))
set_option maxRecDepth 100000 in
set_option maxHeartbeats 4000000 in
theorem xc_X11_letterAt (l : Launch) (D : va_G) (ad : Nat → Nat) (ca : Nat → ClassId) (σ : xr_S) (a1 : Int32) (q : Int32) (hf : xf_X11_letterAt σ a1 = some q) : xr_M l D ad ca yX11_letterAt cX11_letterAt 2 (some .int) 0 0 [.ref (ad 49), .int a1] σ (some (.int q)) σ := by
  refine xr_openI [some (.ref (ad 49)), some (.int a1)] xm_X11_letterAt (Nat.le_of_ble_eq_true rfl) rfl (fun J B RR => ?_)
  unfold xf_X11_letterAt at hf
  refine xr_iload_n B dX11_letterAt_0 rfl rfl ?_
  refine xr_aload_n B dX11_letterAt_1 rfl rfl ?_
  refine xr_getI B xg_X11_89 xh_49 rfl dX11_letterAt_2 ?_
  refine xr_ic_ge B (tgt := 17) dX11_letterAt_5 (by decide) hf (fun _ hf => ?_) (fun _ hf => ?_)
  · refine xr_iconst B (v := (-1)) dX11_letterAt_17 (by decide) ?_
    obtain rfl := Option.some.inj hf
    exact RR _ _ _ dX11_letterAt_18 rfl
  · refine xr_aload_n B dX11_letterAt_8 rfl rfl ?_
    refine xr_getR B xg_X11_26 xh_49 rfl dX11_letterAt_9 ?_
    refine xr_iload_n B dX11_letterAt_12 rfl rfl ?_
    refine xq_iald B xh_55 dX11_letterAt_13 hf (fun v1 hf => ?_)
    refine xr_goto B (tgt := 18) dX11_letterAt_14 (by decide) ?_
    obtain rfl := Option.some.inj hf
    exact RR _ _ _ dX11_letterAt_18 rfl

noncomputable def xf_X11_here_L0  (K4 : xr_S → Option (Int32 × xr_S)) (t1 : xr_S) (rec2 : xr_S → Option (Int32 × xr_S)) : Option (Int32 × xr_S) := (xf_X11_letterAt t1 (t1.1 49 12)).bind (fun v5 => if v5 = 32 then (xr_pf t1 49 12 ((t1.1 49 12) + 1) (fun s6 => rec2 s6)) else (K4 t1))
noncomputable def xf_X11_here (σ : xr_S) : Option (Int32 × xr_S) := xr_lw (xf_X11_here_L0 (fun (e3 : xr_S) => xr_pf e3 49 13 (e3.1 49 12) (fun s7 => (xf_X11_letterAt s7 (s7.1 49 12)).bind (fun v8 => some (v8, s7))))) σ
set_option maxRecDepth 100000 in
set_option maxHeartbeats 4000000 in
theorem xc_X11_here (l : Launch) (D : va_G) (ad : Nat → Nat) (ca : Nat → ClassId) (σ : xr_S) (q : (Int32 × xr_S)) (hf : xf_X11_here σ = some q) : xr_M l D ad ca yX11_here cX11_here 1 (some .int) 1 21 [.ref (ad 49)] σ (some (.int q.1)) q.2 := by
  refine xr_openI [some (.ref (ad 49))] xm_X11_here (Nat.le_of_ble_eq_true rfl) rfl (fun J B RR => ?_)
  unfold xf_X11_here at hf
  refine xq_loop (fun (t1 : xr_S) => J 0 [some (.ref (ad 49))] [] t1) (fun (e3 : xr_S) => J 26 [some (.ref (ad 49))] [] e3) hf (fun e3 hf => ?_) (fun K4 hK4 t1 rec2 hrec2 hf => ?_)
  · refine xr_aload_n B dX11_here_26 rfl rfl ?_
    refine xr_aload_n B dX11_here_27 rfl rfl ?_
    refine xr_getI B xg_X11_93 xh_49 rfl dX11_here_28 ?_
    refine xq_put B xp_X11_100 rfl rfl xh_49 rfl dX11_here_31 hf (fun s7 hf => ?_)
    refine xr_aload_n B dX11_here_34 rfl rfl ?_
    refine xr_aload_n B dX11_here_35 rfl rfl ?_
    refine xr_getI B xg_X11_93 xh_49 rfl dX11_here_36 ?_
    refine xr_cVi B (rest := []) [.int (s7.1 49 12)] xm_X11_letterAt xv_X11_96 (fun q hq => xc_X11_letterAt l D ad ca s7 (s7.1 49 12) q hq) xh_49 rfl rfl (by decide) rfl (Nat.le_of_ble_eq_true rfl) dX11_here_39 hf (fun v8 hf => ?_)
    obtain rfl := Option.some.inj hf
    exact RR _ _ _ dX11_here_42 rfl
  · unfold xf_X11_here_L0 at hf
    refine xr_aload_n B dX11_here_0 rfl rfl ?_
    refine xr_aload_n B dX11_here_1 rfl rfl ?_
    refine xr_getI B xg_X11_93 xh_49 rfl dX11_here_2 ?_
    refine xr_cVi B (rest := []) [.int (t1.1 49 12)] xm_X11_letterAt xv_X11_96 (fun q hq => xc_X11_letterAt l D ad ca t1 (t1.1 49 12) q hq) xh_49 rfl rfl (by decide) rfl (Nat.le_of_ble_eq_true rfl) dX11_here_5 hf (fun v5 hf => ?_)
    refine xr_bipush B (v := 32) dX11_here_8 (by decide) ?_
    refine xr_ic_ne B (tgt := 26) dX11_here_10 (by decide) hf (fun _ hf => ?_) (fun _ hf => ?_)
    · refine xr_aload_n B dX11_here_13 rfl rfl ?_
      refine xr_dup B dX11_here_14 rfl ?_
      refine xr_getI B xg_X11_93 xh_49 rfl dX11_here_15 ?_
      refine xr_iconst B (v := 1) dX11_here_18 (by decide) ?_
      refine xr_iadd B dX11_here_19 ?_
      refine xq_put B xp_X11_93 rfl rfl xh_49 rfl dX11_here_20 hf (fun s6 hf => ?_)
      refine xr_goto B (tgt := 0) dX11_here_23 (by decide) ?_
      exact hrec2 s6 hf
    · exact hK4 t1 hf

noncomputable def xf_X11_fails (σ : xr_S) (a1 : Int32) (a2 : Int32) : Option (Int32 × xr_S) := xr_pf σ 49 15 a1 (fun s1 => xr_pf s1 49 16 a2 (fun s2 => some (0, s2)))
set_option maxRecDepth 100000 in
set_option maxHeartbeats 4000000 in
theorem xc_X11_fails (l : Launch) (D : va_G) (ad : Nat → Nat) (ca : Nat → ClassId) (σ : xr_S) (a1 : Int32) (a2 : Int32) (q : (Int32 × xr_S)) (hf : xf_X11_fails σ a1 a2 = some q) : xr_M l D ad ca yX11_fails cX11_fails 3 (some .boolean) 0 0 [.ref (ad 49), .int a1, .int a2] σ (some (.int q.1)) q.2 := by
  refine xr_openZ [some (.ref (ad 49)), some (.int a1), some (.int a2)] xm_X11_fails (Nat.le_of_ble_eq_true rfl) rfl (fun J B RR => ?_)
  unfold xf_X11_fails at hf
  refine xr_aload_n B dX11_fails_0 rfl rfl ?_
  refine xr_iload_n B dX11_fails_1 rfl rfl ?_
  refine xq_put B xp_X11_103 rfl rfl xh_49 rfl dX11_fails_2 hf (fun s1 hf => ?_)
  refine xr_aload_n B dX11_fails_5 rfl rfl ?_
  refine xr_iload_n B dX11_fails_6 rfl rfl ?_
  refine xq_put B xp_X11_29 rfl rfl xh_49 rfl dX11_fails_7 hf (fun s2 hf => ?_)
  refine xr_iconst B (v := 0) dX11_fails_10 (by decide) ?_
  obtain rfl := Option.some.inj hf
  exact RR _ _ _ (by decide) dX11_fails_11 rfl

noncomputable def xf_X11_takes (σ : xr_S) (a1 : Int32) : Option (Int32 × xr_S) := (xf_X11_here σ).bind (fun p1 => if p1.1 = a1 then (xr_pf p1.2 49 12 ((p1.2.1 49 12) + 1) (fun s2 => some (1, s2))) else ((xf_X11_fails p1.2 1 (p1.2.1 49 13)).bind (fun p3 => xr_zb p3.1 (some (p3.1, p3.2)))))
set_option maxRecDepth 100000 in
set_option maxHeartbeats 4000000 in
theorem xc_X11_takes (l : Launch) (D : va_G) (ad : Nat → Nat) (ca : Nat → ClassId) (σ : xr_S) (a1 : Int32) (q : (Int32 × xr_S)) (hf : xf_X11_takes σ a1 = some q) : xr_M l D ad ca yX11_takes cX11_takes 2 (some .boolean) 2 41 [.ref (ad 49), .int a1] σ (some (.int q.1)) q.2 := by
  refine xr_openZ [some (.ref (ad 49)), some (.int a1)] xm_X11_takes (Nat.le_of_ble_eq_true rfl) rfl (fun J B RR => ?_)
  unfold xf_X11_takes at hf
  refine xr_aload_n B dX11_takes_0 rfl rfl ?_
  refine xr_cVI B (rest := []) [] xm_X11_here xv_X11_106 (fun q hq => xc_X11_here l D ad ca σ q hq) xh_49 rfl rfl (by decide) rfl (Nat.le_of_ble_eq_true rfl) dX11_takes_1 hf (fun p1 hf => ?_)
  refine xr_iload_n B dX11_takes_4 rfl rfl ?_
  refine xr_ic_eq B (tgt := 18) dX11_takes_5 (by decide) hf (fun _ hf => ?_) (fun _ hf => ?_)
  · refine xr_aload_n B dX11_takes_18 rfl rfl ?_
    refine xr_dup B dX11_takes_19 rfl ?_
    refine xr_getI B xg_X11_93 xh_49 rfl dX11_takes_20 ?_
    refine xr_iconst B (v := 1) dX11_takes_23 (by decide) ?_
    refine xr_iadd B dX11_takes_24 ?_
    refine xq_put B xp_X11_93 rfl rfl xh_49 rfl dX11_takes_25 hf (fun s2 hf => ?_)
    refine xr_iconst B (v := 1) dX11_takes_28 (by decide) ?_
    obtain rfl := Option.some.inj hf
    exact RR _ _ _ (by decide) dX11_takes_29 rfl
  · refine xr_aload_n B dX11_takes_8 rfl rfl ?_
    refine xr_iconst B (v := 1) dX11_takes_9 (by decide) ?_
    refine xr_aload_n B dX11_takes_10 rfl rfl ?_
    refine xr_getI B xg_X11_100 xh_49 rfl dX11_takes_11 ?_
    refine xr_cVI B (rest := []) [.int 1, .int (p1.2.1 49 13)] xm_X11_fails xv_X11_110 (fun q hq => xc_X11_fails l D ad ca p1.2 1 (p1.2.1 49 13) q hq) xh_49 rfl rfl (by decide) rfl (Nat.le_of_ble_eq_true rfl) dX11_takes_14 hf (fun p3 hf => ?_)
    obtain ⟨hz, hf⟩ := xq_zb hf
    obtain rfl := Option.some.inj hf
    exact RR _ _ _ hz dX11_takes_17 rfl

noncomputable def xf_X11_takesNumber_L32  (K8 : xr_S → Option (Int32 × xr_S)) (t5 : xr_S) (rec6 : xr_S → Option (Int32 × xr_S)) : Option (Int32 × xr_S) := (xf_X11_letterAt t5 (t5.1 49 12)).bind (fun v9 => (xf_X11_in t5 (Int32.toInt64 v9) 48 57).bind (fun v10 => if v10 = 0 then (K8 t5) else (xr_jn (fun (w11 : Int32) => xr_pf t5 49 14 w11 (fun s13 => xr_pf s13 49 12 ((s13.1 49 12) + 1) (fun s14 => rec6 s14))) (fun j12 => if 3 ≤ ((t5.1 49 12) - (t5.1 49 13)) then (j12 (t5.1 49 14)) else ((xf_X11_letterAt t5 (t5.1 49 12)).bind (fun v15 => j12 (((10 * (t5.1 49 14)) + v15) - 48)))))))
noncomputable def xf_X11_takesNumber (σ : xr_S) (a1 : Int32) (a2 : Int32) : Option (Int32 × xr_S) := (xf_X11_here σ).bind (fun p1 => (xf_X11_in p1.2 (Int32.toInt64 p1.1) 48 57).bind (fun v2 => if v2 = 0 then ((xf_X11_fails p1.2 1 (p1.2.1 49 13)).bind (fun p3 => xr_zb p3.1 (some (p3.1, p3.2)))) else (xr_pf p1.2 49 14 0 (fun s4 => xr_lw (xf_X11_takesNumber_L32 (fun (e7 : xr_S) => xr_jn (fun (w16 : Unit) => (xf_X11_fails e7 2 (e7.1 49 13)).bind (fun p18 => if p18.1 = 0 then (some (0, p18.2)) else (some (1, p18.2)))) (fun j17 => if 4 ≤ ((e7.1 49 12) - (e7.1 49 13)) then (j17 ()) else ((xf_X11_in e7 (Int32.toInt64 (e7.1 49 14)) (Int32.toInt64 a1) (Int32.toInt64 a2)).bind (fun v19 => if v19 = 0 then (j17 ()) else (some (1, e7))))))) s4))))
set_option maxRecDepth 100000 in
set_option maxHeartbeats 4000000 in
theorem xc_X11_takesNumber (l : Launch) (D : va_G) (ad : Nat → Nat) (ca : Nat → ClassId) (σ : xr_S) (a1 : Int32) (a2 : Int32) (q : (Int32 × xr_S)) (hf : xf_X11_takesNumber σ a1 a2 = some q) : xr_M l D ad ca yX11_takesNumber cX11_takesNumber 3 (some .boolean) 2 41 [.ref (ad 49), .int a1, .int a2] σ (some (.int q.1)) q.2 := by
  refine xr_openZ [some (.ref (ad 49)), some (.int a1), some (.int a2)] xm_X11_takesNumber (Nat.le_of_ble_eq_true rfl) rfl (fun J B RR => ?_)
  unfold xf_X11_takesNumber at hf
  refine xr_aload_n B dX11_takesNumber_0 rfl rfl ?_
  refine xr_cVI B (rest := []) [] xm_X11_here xv_X11_106 (fun q hq => xc_X11_here l D ad ca σ q hq) xh_49 rfl rfl (by decide) rfl (Nat.le_of_ble_eq_true rfl) dX11_takesNumber_1 hf (fun p1 hf => ?_)
  refine xr_i2l B dX11_takesNumber_4 ?_
  refine xr_ldc2 B xl_X11_114 dX11_takesNumber_5 ?_
  refine xr_ldc2 B xl_X11_116 dX11_takesNumber_8 ?_
  refine xr_cSi B (rest := []) [.long (Int32.toInt64 p1.1), .long 48, .long 57] xm_X11_in xs_X11_76 (fun q hq => xc_X11_in l D ad ca p1.2 (Int32.toInt64 p1.1) 48 57 q hq) rfl (by decide) rfl (Nat.le_of_ble_eq_true rfl) dX11_takesNumber_11 hf (fun v2 hf => ?_)
  refine xr_if_ne B (tgt := 27) dX11_takesNumber_14 (by decide) hf (fun _ hf => ?_) (fun _ hf => ?_)
  · refine xr_aload_n B dX11_takesNumber_17 rfl rfl ?_
    refine xr_iconst B (v := 1) dX11_takesNumber_18 (by decide) ?_
    refine xr_aload_n B dX11_takesNumber_19 rfl rfl ?_
    refine xr_getI B xg_X11_100 xh_49 rfl dX11_takesNumber_20 ?_
    refine xr_cVI B (rest := []) [.int 1, .int (p1.2.1 49 13)] xm_X11_fails xv_X11_110 (fun q hq => xc_X11_fails l D ad ca p1.2 1 (p1.2.1 49 13) q hq) xh_49 rfl rfl (by decide) rfl (Nat.le_of_ble_eq_true rfl) dX11_takesNumber_23 hf (fun p3 hf => ?_)
    obtain ⟨hz, hf⟩ := xq_zb hf
    obtain rfl := Option.some.inj hf
    exact RR _ _ _ hz dX11_takesNumber_26 rfl
  · refine xr_aload_n B dX11_takesNumber_27 rfl rfl ?_
    refine xr_iconst B (v := 0) dX11_takesNumber_28 (by decide) ?_
    refine xq_put B xp_X11_118 rfl rfl xh_49 rfl dX11_takesNumber_29 hf (fun s4 hf => ?_)
    refine xq_loop (fun (t5 : xr_S) => J 32 [some (.ref (ad 49)), some (.int a1), some (.int a2)] [] t5) (fun (e7 : xr_S) => J 109 [some (.ref (ad 49)), some (.int a1), some (.int a2)] [] e7) hf (fun e7 hf => ?_) (fun K8 hK8 t5 rec6 hrec6 hf => ?_)
    · refine xr_aload_n B dX11_takesNumber_109 rfl rfl ?_
      refine xr_getI B xg_X11_93 xh_49 rfl dX11_takesNumber_110 ?_
      refine xr_aload_n B dX11_takesNumber_113 rfl rfl ?_
      refine xr_getI B xg_X11_100 xh_49 rfl dX11_takesNumber_114 ?_
      refine xr_isub B dX11_takesNumber_117 ?_
      refine xr_iconst B (v := 4) dX11_takesNumber_118 (by decide) ?_
      refine xr_meet (fun (w16 : Unit) => J 137 [some (.ref (ad 49)), none, none] [] e7) hf (fun w16 hf => ?_) (fun j17 hj17 hf => ?_)
      · refine xr_aload_n B dX11_takesNumber_137 rfl rfl ?_
        refine xr_iconst B (v := 2) dX11_takesNumber_138 (by decide) ?_
        refine xr_aload_n B dX11_takesNumber_139 rfl rfl ?_
        refine xr_getI B xg_X11_100 xh_49 rfl dX11_takesNumber_140 ?_
        refine xr_cVI B (rest := []) [.int 2, .int (e7.1 49 13)] xm_X11_fails xv_X11_110 (fun q hq => xc_X11_fails l D ad ca e7 2 (e7.1 49 13) q hq) xh_49 rfl rfl (by decide) rfl (Nat.le_of_ble_eq_true rfl) dX11_takesNumber_143 hf (fun p18 hf => ?_)
        refine xr_if_eq B (tgt := 153) dX11_takesNumber_146 (by decide) hf (fun _ hf => ?_) (fun _ hf => ?_)
        · refine xr_iconst B (v := 0) dX11_takesNumber_153 (by decide) ?_
          obtain rfl := Option.some.inj hf
          exact RR _ _ _ (by decide) dX11_takesNumber_154 rfl
        · refine xr_iconst B (v := 1) dX11_takesNumber_149 (by decide) ?_
          refine xr_goto B (tgt := 154) dX11_takesNumber_150 (by decide) ?_
          obtain rfl := Option.some.inj hf
          exact RR _ _ _ (by decide) dX11_takesNumber_154 rfl
      · refine xr_ic_ge B (tgt := 137) dX11_takesNumber_119 (by decide) hf (fun _ hf => ?_) (fun _ hf => ?_)
        · refine xr_forget B (lv2 := [some (.ref (ad 49)), none, none]) ⟨rfl, trivial⟩ ?_
          exact hj17 () hf
        · refine xr_aload_n B dX11_takesNumber_122 rfl rfl ?_
          refine xr_getI B xg_X11_118 xh_49 rfl dX11_takesNumber_123 ?_
          refine xr_i2l B dX11_takesNumber_126 ?_
          refine xr_iload_n B dX11_takesNumber_127 rfl rfl ?_
          refine xr_i2l B dX11_takesNumber_128 ?_
          refine xr_iload_n B dX11_takesNumber_129 rfl rfl ?_
          refine xr_i2l B dX11_takesNumber_130 ?_
          refine xr_cSi B (rest := []) [.long (Int32.toInt64 (e7.1 49 14)), .long (Int32.toInt64 a1), .long (Int32.toInt64 a2)] xm_X11_in xs_X11_76 (fun q hq => xc_X11_in l D ad ca e7 (Int32.toInt64 (e7.1 49 14)) (Int32.toInt64 a1) (Int32.toInt64 a2) q hq) rfl (by decide) rfl (Nat.le_of_ble_eq_true rfl) dX11_takesNumber_131 hf (fun v19 hf => ?_)
          refine xr_if_ne B (tgt := 149) dX11_takesNumber_134 (by decide) hf (fun _ hf => ?_) (fun _ hf => ?_)
          · refine xr_forget B (lv2 := [some (.ref (ad 49)), none, none]) ⟨rfl, trivial⟩ ?_
            exact hj17 () hf
          · refine xr_iconst B (v := 1) dX11_takesNumber_149 (by decide) ?_
            refine xr_goto B (tgt := 154) dX11_takesNumber_150 (by decide) ?_
            obtain rfl := Option.some.inj hf
            exact RR _ _ _ (by decide) dX11_takesNumber_154 rfl
    · unfold xf_X11_takesNumber_L32 at hf
      refine xr_aload_n B dX11_takesNumber_32 rfl rfl ?_
      refine xr_aload_n B dX11_takesNumber_33 rfl rfl ?_
      refine xr_getI B xg_X11_93 xh_49 rfl dX11_takesNumber_34 ?_
      refine xr_cVi B (rest := []) [.int (t5.1 49 12)] xm_X11_letterAt xv_X11_96 (fun q hq => xc_X11_letterAt l D ad ca t5 (t5.1 49 12) q hq) xh_49 rfl rfl (by decide) rfl (Nat.le_of_ble_eq_true rfl) dX11_takesNumber_37 hf (fun v9 hf => ?_)
      refine xr_i2l B dX11_takesNumber_40 ?_
      refine xr_ldc2 B xl_X11_114 dX11_takesNumber_41 ?_
      refine xr_ldc2 B xl_X11_116 dX11_takesNumber_44 ?_
      refine xr_cSi B (rest := []) [.long (Int32.toInt64 v9), .long 48, .long 57] xm_X11_in xs_X11_76 (fun q hq => xc_X11_in l D ad ca t5 (Int32.toInt64 v9) 48 57 q hq) rfl (by decide) rfl (Nat.le_of_ble_eq_true rfl) dX11_takesNumber_47 hf (fun v10 hf => ?_)
      refine xr_if_eq B (tgt := 109) dX11_takesNumber_50 (by decide) hf (fun _ hf => ?_) (fun _ hf => ?_)
      · exact hK8 t5 hf
      · refine xr_aload_n B dX11_takesNumber_53 rfl rfl ?_
        refine xr_aload_n B dX11_takesNumber_54 rfl rfl ?_
        refine xr_getI B xg_X11_93 xh_49 rfl dX11_takesNumber_55 ?_
        refine xr_aload_n B dX11_takesNumber_58 rfl rfl ?_
        refine xr_getI B xg_X11_100 xh_49 rfl dX11_takesNumber_59 ?_
        refine xr_isub B dX11_takesNumber_62 ?_
        refine xr_iconst B (v := 3) dX11_takesNumber_63 (by decide) ?_
        refine xr_meet (fun (w11 : Int32) => J 93 [some (.ref (ad 49)), some (.int a1), some (.int a2)] [.int w11, .ref (ad 49)] t5) hf (fun w11 hf => ?_) (fun j12 hj12 hf => ?_)
        · refine xq_put B xp_X11_118 rfl rfl xh_49 rfl dX11_takesNumber_93 hf (fun s13 hf => ?_)
          refine xr_aload_n B dX11_takesNumber_96 rfl rfl ?_
          refine xr_dup B dX11_takesNumber_97 rfl ?_
          refine xr_getI B xg_X11_93 xh_49 rfl dX11_takesNumber_98 ?_
          refine xr_iconst B (v := 1) dX11_takesNumber_101 (by decide) ?_
          refine xr_iadd B dX11_takesNumber_102 ?_
          refine xq_put B xp_X11_93 rfl rfl xh_49 rfl dX11_takesNumber_103 hf (fun s14 hf => ?_)
          refine xr_goto B (tgt := 32) dX11_takesNumber_106 (by decide) ?_
          exact hrec6 s14 hf
        · refine xr_ic_ge B (tgt := 89) dX11_takesNumber_64 (by decide) hf (fun _ hf => ?_) (fun _ hf => ?_)
          · refine xr_aload_n B dX11_takesNumber_89 rfl rfl ?_
            refine xr_getI B xg_X11_118 xh_49 rfl dX11_takesNumber_90 ?_
            exact hj12 (t5.1 49 14) hf
          · refine xr_bipush B (v := 10) dX11_takesNumber_67 (by decide) ?_
            refine xr_aload_n B dX11_takesNumber_69 rfl rfl ?_
            refine xr_getI B xg_X11_118 xh_49 rfl dX11_takesNumber_70 ?_
            refine xr_imul B dX11_takesNumber_73 ?_
            refine xr_aload_n B dX11_takesNumber_74 rfl rfl ?_
            refine xr_aload_n B dX11_takesNumber_75 rfl rfl ?_
            refine xr_getI B xg_X11_93 xh_49 rfl dX11_takesNumber_76 ?_
            refine xr_cVi B (rest := [.int (10 * (t5.1 49 14)), .ref (ad 49)]) [.int (t5.1 49 12)] xm_X11_letterAt xv_X11_96 (fun q hq => xc_X11_letterAt l D ad ca t5 (t5.1 49 12) q hq) xh_49 rfl rfl (by decide) rfl (Nat.le_of_ble_eq_true rfl) dX11_takesNumber_79 hf (fun v15 hf => ?_)
            refine xr_iadd B dX11_takesNumber_82 ?_
            refine xr_bipush B (v := 48) dX11_takesNumber_83 (by decide) ?_
            refine xr_isub B dX11_takesNumber_85 ?_
            refine xr_goto B (tgt := 93) dX11_takesNumber_86 (by decide) ?_
            exact hj12 (((10 * (t5.1 49 14)) + v15) - 48) hf

noncomputable def xf_X11_takesDreams (σ : xr_S) : Option (Int32 × xr_S) := (xf_X11_takesNumber σ 2 5).bind (fun p1 => if p1.1 = 0 then (some (0, p1.2)) else (xr_pf p1.2 49 17 (p1.2.1 49 14) (fun s2 => (xf_X11_takesNumber s2 0 5).bind (fun p3 => if p3.1 = 0 then (some (0, p3.2)) else (xr_pf p3.2 49 18 (p3.2.1 49 14) (fun s4 => some (1, s4)))))))
set_option maxRecDepth 100000 in
set_option maxHeartbeats 4000000 in
theorem xc_X11_takesDreams (l : Launch) (D : va_G) (ad : Nat → Nat) (ca : Nat → ClassId) (σ : xr_S) (q : (Int32 × xr_S)) (hf : xf_X11_takesDreams σ = some q) : xr_M l D ad ca yX11_takesDreams cX11_takesDreams 1 (some .boolean) 3 63 [.ref (ad 49)] σ (some (.int q.1)) q.2 := by
  refine xr_openZ [some (.ref (ad 49))] xm_X11_takesDreams (Nat.le_of_ble_eq_true rfl) rfl (fun J B RR => ?_)
  unfold xf_X11_takesDreams at hf
  refine xr_aload_n B dX11_takesDreams_0 rfl rfl ?_
  refine xr_iconst B (v := 2) dX11_takesDreams_1 (by decide) ?_
  refine xr_iconst B (v := 5) dX11_takesDreams_2 (by decide) ?_
  refine xr_cVI B (rest := []) [.int 2, .int 5] xm_X11_takesNumber xv_X11_121 (fun q hq => xc_X11_takesNumber l D ad ca σ 2 5 q hq) xh_49 rfl rfl (by decide) rfl (Nat.le_of_ble_eq_true rfl) dX11_takesDreams_3 hf (fun p1 hf => ?_)
  refine xr_if_ne B (tgt := 11) dX11_takesDreams_6 (by decide) hf (fun _ hf => ?_) (fun _ hf => ?_)
  · refine xr_iconst B (v := 0) dX11_takesDreams_9 (by decide) ?_
    obtain rfl := Option.some.inj hf
    exact RR _ _ _ (by decide) dX11_takesDreams_10 rfl
  · refine xr_aload_n B dX11_takesDreams_11 rfl rfl ?_
    refine xr_aload_n B dX11_takesDreams_12 rfl rfl ?_
    refine xr_getI B xg_X11_118 xh_49 rfl dX11_takesDreams_13 ?_
    refine xq_put B xp_X11_124 rfl rfl xh_49 rfl dX11_takesDreams_16 hf (fun s2 hf => ?_)
    refine xr_aload_n B dX11_takesDreams_19 rfl rfl ?_
    refine xr_iconst B (v := 0) dX11_takesDreams_20 (by decide) ?_
    refine xr_iconst B (v := 5) dX11_takesDreams_21 (by decide) ?_
    refine xr_cVI B (rest := []) [.int 0, .int 5] xm_X11_takesNumber xv_X11_121 (fun q hq => xc_X11_takesNumber l D ad ca s2 0 5 q hq) xh_49 rfl rfl (by decide) rfl (Nat.le_of_ble_eq_true rfl) dX11_takesDreams_22 hf (fun p3 hf => ?_)
    refine xr_if_ne B (tgt := 30) dX11_takesDreams_25 (by decide) hf (fun _ hf => ?_) (fun _ hf => ?_)
    · refine xr_iconst B (v := 0) dX11_takesDreams_28 (by decide) ?_
      obtain rfl := Option.some.inj hf
      exact RR _ _ _ (by decide) dX11_takesDreams_29 rfl
    · refine xr_aload_n B dX11_takesDreams_30 rfl rfl ?_
      refine xr_aload_n B dX11_takesDreams_31 rfl rfl ?_
      refine xr_getI B xg_X11_118 xh_49 rfl dX11_takesDreams_32 ?_
      refine xq_put B xp_X11_127 rfl rfl xh_49 rfl dX11_takesDreams_35 hf (fun s4 hf => ?_)
      refine xr_iconst B (v := 1) dX11_takesDreams_38 (by decide) ?_
      obtain rfl := Option.some.inj hf
      exact RR _ _ _ (by decide) dX11_takesDreams_39 rfl

noncomputable def xf_X11_takesSleeper_L4  (K4 : (Int32 × xr_S) → Option (Int32 × xr_S)) (t1 : (Int32 × Int32 × xr_S)) (rec2 : (Int32 × Int32 × xr_S) → Option (Int32 × xr_S)) : Option (Int32 × xr_S) := if (t1.2.2.1 49 17) ≤ t1.2.1 then (K4 (t1.1, t1.2.2)) else (xr_jn (fun (w5 : xr_S) => (xf_X11_takesNumber w5 0 9).bind (fun p7 => if p7.1 = 0 then (some (0, p7.2)) else (xr_st p7.2 56 30 ((5 * (p7.2.1 49 19)) + t1.2.1) (p7.2.1 49 14) (fun s8 => xr_v ((t1.1 + (s8.1 49 14))) (fun v9 => rec2 (v9, (t1.2.1 + 1), s8)))))) (fun j6 => if t1.2.1 ≤ 0 then (j6 t1.2.2) else ((xf_X11_takes t1.2.2 44).bind (fun p11 => if p11.1 = 0 then (some (0, p11.2)) else (j6 p11.2)))))
noncomputable def xf_X11_takesSleeper (σ : xr_S) : Option (Int32 × xr_S) := xr_lw (xf_X11_takesSleeper_L4 (fun (e3 : (Int32 × xr_S)) => xr_pf e3.2 49 19 ((e3.2.1 49 19) + 1) (fun s12 => if 0 < e3.1 then (some (1, s12)) else ((xf_X11_fails s12 4 (s12.1 49 13)).bind (fun p13 => if p13.1 = 0 then (some (0, p13.2)) else (some (1, p13.2))))))) (0, 0, σ)
set_option maxRecDepth 100000 in
set_option maxHeartbeats 4000000 in
theorem xc_X11_takesSleeper (l : Launch) (D : va_G) (ad : Nat → Nat) (ca : Nat → ClassId) (σ : xr_S) (q : (Int32 × xr_S)) (hf : xf_X11_takesSleeper σ = some q) : xr_M l D ad ca yX11_takesSleeper cX11_takesSleeper 3 (some .boolean) 3 63 [.ref (ad 49)] σ (some (.int q.1)) q.2 := by
  refine xr_openZ [some (.ref (ad 49)), none, none] xm_X11_takesSleeper (Nat.le_of_ble_eq_true rfl) rfl (fun J B RR => ?_)
  unfold xf_X11_takesSleeper at hf
  refine xr_iconst B (v := 0) dX11_takesSleeper_0 (by decide) ?_
  refine xr_istore_n B (lv2 := [some (.ref (ad 49)), some (.int 0), none]) dX11_takesSleeper_1 rfl (by decide) rfl ?_
  refine xr_iconst B (v := 0) dX11_takesSleeper_2 (by decide) ?_
  refine xr_istore_n B (lv2 := [some (.ref (ad 49)), some (.int 0), some (.int 0)]) dX11_takesSleeper_3 rfl (by decide) rfl ?_
  refine xq_loop (fun (t1 : (Int32 × Int32 × xr_S)) => J 4 [some (.ref (ad 49)), some (.int t1.1), some (.int t1.2.1)] [] t1.2.2) (fun (e3 : (Int32 × xr_S)) => J 67 [some (.ref (ad 49)), some (.int e3.1), none] [] e3.2) hf (fun e3 hf => ?_) (fun K4 hK4 t1 rec2 hrec2 hf => ?_)
  · refine xr_aload_n B dX11_takesSleeper_67 rfl rfl ?_
    refine xr_dup B dX11_takesSleeper_68 rfl ?_
    refine xr_getI B xg_X11_134 xh_49 rfl dX11_takesSleeper_69 ?_
    refine xr_iconst B (v := 1) dX11_takesSleeper_72 (by decide) ?_
    refine xr_iadd B dX11_takesSleeper_73 ?_
    refine xq_put B xp_X11_134 rfl rfl xh_49 rfl dX11_takesSleeper_74 hf (fun s12 hf => ?_)
    refine xr_iload_n B dX11_takesSleeper_77 rfl rfl ?_
    refine xr_if_gt B (tgt := 93) dX11_takesSleeper_78 (by decide) hf (fun _ hf => ?_) (fun _ hf => ?_)
    · refine xr_iconst B (v := 1) dX11_takesSleeper_93 (by decide) ?_
      refine xr_goto B (tgt := 98) dX11_takesSleeper_94 (by decide) ?_
      obtain rfl := Option.some.inj hf
      exact RR _ _ _ (by decide) dX11_takesSleeper_98 rfl
    · refine xr_aload_n B dX11_takesSleeper_81 rfl rfl ?_
      refine xr_iconst B (v := 4) dX11_takesSleeper_82 (by decide) ?_
      refine xr_aload_n B dX11_takesSleeper_83 rfl rfl ?_
      refine xr_getI B xg_X11_100 xh_49 rfl dX11_takesSleeper_84 ?_
      refine xr_cVI B (rest := []) [.int 4, .int (s12.1 49 13)] xm_X11_fails xv_X11_110 (fun q hq => xc_X11_fails l D ad ca s12 4 (s12.1 49 13) q hq) xh_49 rfl rfl (by decide) rfl (Nat.le_of_ble_eq_true rfl) dX11_takesSleeper_87 hf (fun p13 hf => ?_)
      refine xr_if_eq B (tgt := 97) dX11_takesSleeper_90 (by decide) hf (fun _ hf => ?_) (fun _ hf => ?_)
      · refine xr_iconst B (v := 0) dX11_takesSleeper_97 (by decide) ?_
        obtain rfl := Option.some.inj hf
        exact RR _ _ _ (by decide) dX11_takesSleeper_98 rfl
      · refine xr_iconst B (v := 1) dX11_takesSleeper_93 (by decide) ?_
        refine xr_goto B (tgt := 98) dX11_takesSleeper_94 (by decide) ?_
        obtain rfl := Option.some.inj hf
        exact RR _ _ _ (by decide) dX11_takesSleeper_98 rfl
  · have hrec2 : ∀ (b1 : Int32) (b2 : Int32) (b3 : xr_S), rec2 (b1, b2, b3) = some q → J 4 [some (.ref (ad 49)), some (.int b1), some (.int b2)] [] b3 := fun b1 b2 b3 h => hrec2 (b1, b2, b3) h
    have hK4 : ∀ (b1 : Int32) (b2 : xr_S), K4 (b1, b2) = some q → J 67 [some (.ref (ad 49)), some (.int b1), none] [] b2 := fun b1 b2 h => hK4 (b1, b2) h
    unfold xf_X11_takesSleeper_L4 at hf
    refine xr_iload_n B dX11_takesSleeper_4 rfl rfl ?_
    refine xr_aload_n B dX11_takesSleeper_5 rfl rfl ?_
    refine xr_getI B xg_X11_124 xh_49 rfl dX11_takesSleeper_6 ?_
    refine xr_ic_ge B (tgt := 67) dX11_takesSleeper_9 (by decide) hf (fun _ hf => ?_) (fun _ hf => ?_)
    · refine xr_forget B (lv2 := [some (.ref (ad 49)), some (.int t1.1), none]) ⟨rfl, ⟨rfl, trivial⟩⟩ ?_
      exact hK4 t1.1 t1.2.2 hf
    · refine xr_iload_n B dX11_takesSleeper_12 rfl rfl ?_
      refine xr_meet (fun (w5 : xr_S) => J 25 [some (.ref (ad 49)), some (.int t1.1), some (.int t1.2.1)] [] w5) hf (fun w5 hf => ?_) (fun j6 hj6 hf => ?_)
      · refine xr_aload_n B dX11_takesSleeper_25 rfl rfl ?_
        refine xr_iconst B (v := 0) dX11_takesSleeper_26 (by decide) ?_
        refine xr_bipush B (v := 9) dX11_takesSleeper_27 (by decide) ?_
        refine xr_cVI B (rest := []) [.int 0, .int 9] xm_X11_takesNumber xv_X11_121 (fun q hq => xc_X11_takesNumber l D ad ca w5 0 9 q hq) xh_49 rfl rfl (by decide) rfl (Nat.le_of_ble_eq_true rfl) dX11_takesSleeper_29 hf (fun p7 hf => ?_)
        refine xr_if_ne B (tgt := 37) dX11_takesSleeper_32 (by decide) hf (fun _ hf => ?_) (fun _ hf => ?_)
        · refine xr_iconst B (v := 0) dX11_takesSleeper_35 (by decide) ?_
          obtain rfl := Option.some.inj hf
          exact RR _ _ _ (by decide) dX11_takesSleeper_36 rfl
        · refine xr_aload_n B dX11_takesSleeper_37 rfl rfl ?_
          refine xr_getR B xg_X11_33 xh_49 rfl dX11_takesSleeper_38 ?_
          refine xr_iconst B (v := 5) dX11_takesSleeper_41 (by decide) ?_
          refine xr_aload_n B dX11_takesSleeper_42 rfl rfl ?_
          refine xr_getI B xg_X11_134 xh_49 rfl dX11_takesSleeper_43 ?_
          refine xr_imul B dX11_takesSleeper_46 ?_
          refine xr_iload_n B dX11_takesSleeper_47 rfl rfl ?_
          refine xr_iadd B dX11_takesSleeper_48 ?_
          refine xr_aload_n B dX11_takesSleeper_49 rfl rfl ?_
          refine xr_getI B xg_X11_118 xh_49 rfl dX11_takesSleeper_50 ?_
          refine xq_iast B xh_56 dX11_takesSleeper_53 hf (fun s8 hf => ?_)
          refine xr_iload_n B dX11_takesSleeper_54 rfl rfl ?_
          refine xr_aload_n B dX11_takesSleeper_55 rfl rfl ?_
          refine xr_getI B xg_X11_118 xh_49 rfl dX11_takesSleeper_56 ?_
          refine xr_iadd B dX11_takesSleeper_59 ?_
          refine xr_top _ hf (fun v9 hf => ?_)
          refine xr_istore_n B (lv2 := [some (.ref (ad 49)), some (.int v9), some (.int t1.2.1)]) dX11_takesSleeper_60 rfl (by decide) rfl ?_
          refine xr_iinc B (v := (t1.2.1 + 1)) (lv2 := [some (.ref (ad 49)), some (.int v9), some (.int (t1.2.1 + 1))]) dX11_takesSleeper_61 rfl (congrArg (t1.2.1 + ·) (by decide : Int32.ofInt (1) = 1)) (by decide) rfl ?_
          refine xr_goto B (tgt := 4) dX11_takesSleeper_64 (by decide) ?_
          exact hrec2 v9 (t1.2.1 + 1) s8 hf
      · refine xr_if_le B (tgt := 25) dX11_takesSleeper_13 (by decide) hf (fun _ hf => ?_) (fun _ hf => ?_)
        · exact hj6 t1.2.2 hf
        · refine xr_aload_n B dX11_takesSleeper_16 rfl rfl ?_
          refine xr_bipush B (v := 44) dX11_takesSleeper_17 (by decide) ?_
          refine xr_cVI B (rest := []) [.int 44] xm_X11_takes xv_X11_130 (fun q hq => xc_X11_takes l D ad ca t1.2.2 44 q hq) xh_49 rfl rfl (by decide) rfl (Nat.le_of_ble_eq_true rfl) dX11_takesSleeper_19 hf (fun p11 hf => ?_)
          refine xr_if_eq B (tgt := 35) dX11_takesSleeper_22 (by decide) hf (fun _ hf => ?_) (fun _ hf => ?_)
          · refine xr_iconst B (v := 0) dX11_takesSleeper_35 (by decide) ?_
            obtain rfl := Option.some.inj hf
            exact RR _ _ _ (by decide) dX11_takesSleeper_36 rfl
          · exact hj6 p11.2 hf

noncomputable def xf_X11_takesLoaf_L9 (v1 : Int32) (K5 : xr_S → Option (Int32 × xr_S)) (t2 : (Int32 × xr_S)) (rec3 : (Int32 × xr_S) → Option (Int32 × xr_S)) : Option (Int32 × xr_S) := if 3 ≤ t2.1 then (K5 t2.2) else (xr_jn (fun (w6 : Int32) => (xf_X11_takesNumber t2.2 0 w6).bind (fun p8 => if p8.1 = 0 then (some (0, p8.2)) else (xr_st p8.2 57 21 (v1 + t2.1) (p8.2.1 49 14) (fun s9 => rec3 ((t2.1 + 1), s9))))) (fun j7 => if t2.1 = 0 then (j7 ((t2.2.1 49 19) - 1)) else (if t2.1 = 1 then (j7 ((t2.2.1 49 17) - 1)) else (j7 99))))
noncomputable def xf_X11_takesLoaf (σ : xr_S) : Option (Int32 × xr_S) := xr_v ((3 * (σ.1 49 20))) (fun v1 => xr_lw (xf_X11_takesLoaf_L9 v1 (fun (e4 : xr_S) => xr_pf e4 49 20 ((e4.1 49 20) + 1) (fun s11 => some (1, s11)))) (0, σ))
set_option maxRecDepth 100000 in
set_option maxHeartbeats 4000000 in
theorem xc_X11_takesLoaf (l : Launch) (D : va_G) (ad : Nat → Nat) (ca : Nat → ClassId) (σ : xr_S) (q : (Int32 × xr_S)) (hf : xf_X11_takesLoaf σ = some q) : xr_M l D ad ca yX11_takesLoaf cX11_takesLoaf 3 (some .boolean) 3 63 [.ref (ad 49)] σ (some (.int q.1)) q.2 := by
  refine xr_openZ [some (.ref (ad 49)), none, none] xm_X11_takesLoaf (Nat.le_of_ble_eq_true rfl) rfl (fun J B RR => ?_)
  unfold xf_X11_takesLoaf at hf
  refine xr_iconst B (v := 3) dX11_takesLoaf_0 (by decide) ?_
  refine xr_aload_n B dX11_takesLoaf_1 rfl rfl ?_
  refine xr_getI B xg_X11_137 xh_49 rfl dX11_takesLoaf_2 ?_
  refine xr_imul B dX11_takesLoaf_5 ?_
  refine xr_top _ hf (fun v1 hf => ?_)
  refine xr_istore_n B (lv2 := [some (.ref (ad 49)), some (.int v1), none]) dX11_takesLoaf_6 rfl (by decide) rfl ?_
  refine xr_iconst B (v := 0) dX11_takesLoaf_7 (by decide) ?_
  refine xr_istore_n B (lv2 := [some (.ref (ad 49)), some (.int v1), some (.int 0)]) dX11_takesLoaf_8 rfl (by decide) rfl ?_
  refine xq_loop (fun (t2 : (Int32 × xr_S)) => J 9 [some (.ref (ad 49)), some (.int v1), some (.int t2.1)] [] t2.2) (fun (e4 : xr_S) => J 71 [some (.ref (ad 49)), none, none] [] e4) hf (fun e4 hf => ?_) (fun K5 hK5 t2 rec3 hrec3 hf => ?_)
  · refine xr_aload_n B dX11_takesLoaf_71 rfl rfl ?_
    refine xr_dup B dX11_takesLoaf_72 rfl ?_
    refine xr_getI B xg_X11_137 xh_49 rfl dX11_takesLoaf_73 ?_
    refine xr_iconst B (v := 1) dX11_takesLoaf_76 (by decide) ?_
    refine xr_iadd B dX11_takesLoaf_77 ?_
    refine xq_put B xp_X11_137 rfl rfl xh_49 rfl dX11_takesLoaf_78 hf (fun s11 hf => ?_)
    refine xr_iconst B (v := 1) dX11_takesLoaf_81 (by decide) ?_
    obtain rfl := Option.some.inj hf
    exact RR _ _ _ (by decide) dX11_takesLoaf_82 rfl
  · have hrec3 : ∀ (b1 : Int32) (b2 : xr_S), rec3 (b1, b2) = some q → J 9 [some (.ref (ad 49)), some (.int v1), some (.int b1)] [] b2 := fun b1 b2 h => hrec3 (b1, b2) h
    unfold xf_X11_takesLoaf_L9 at hf
    refine xr_iload_n B dX11_takesLoaf_9 rfl rfl ?_
    refine xr_iconst B (v := 3) dX11_takesLoaf_10 (by decide) ?_
    refine xr_ic_ge B (tgt := 71) dX11_takesLoaf_11 (by decide) hf (fun _ hf => ?_) (fun _ hf => ?_)
    · refine xr_forget B (lv2 := [some (.ref (ad 49)), none, none]) ⟨rfl, trivial⟩ ?_
      exact hK5 t2.2 hf
    · refine xr_aload_n B dX11_takesLoaf_14 rfl rfl ?_
      refine xr_iconst B (v := 0) dX11_takesLoaf_15 (by decide) ?_
      refine xr_iload_n B dX11_takesLoaf_16 rfl rfl ?_
      refine xr_meet (fun (w6 : Int32) => J 45 [some (.ref (ad 49)), some (.int v1), some (.int t2.1)] [.int w6, .int 0, .ref (ad 49)] t2.2) hf (fun w6 hf => ?_) (fun j7 hj7 hf => ?_)
      · refine xr_cVI B (rest := []) [.int 0, .int w6] xm_X11_takesNumber xv_X11_121 (fun q hq => xc_X11_takesNumber l D ad ca t2.2 0 w6 q hq) xh_49 rfl rfl (by decide) rfl (Nat.le_of_ble_eq_true rfl) dX11_takesLoaf_45 hf (fun p8 hf => ?_)
        refine xr_if_ne B (tgt := 53) dX11_takesLoaf_48 (by decide) hf (fun _ hf => ?_) (fun _ hf => ?_)
        · refine xr_iconst B (v := 0) dX11_takesLoaf_51 (by decide) ?_
          obtain rfl := Option.some.inj hf
          exact RR _ _ _ (by decide) dX11_takesLoaf_52 rfl
        · refine xr_aload_n B dX11_takesLoaf_53 rfl rfl ?_
          refine xr_getR B xg_X11_36 xh_49 rfl dX11_takesLoaf_54 ?_
          refine xr_iload_n B dX11_takesLoaf_57 rfl rfl ?_
          refine xr_iload_n B dX11_takesLoaf_58 rfl rfl ?_
          refine xr_iadd B dX11_takesLoaf_59 ?_
          refine xr_aload_n B dX11_takesLoaf_60 rfl rfl ?_
          refine xr_getI B xg_X11_118 xh_49 rfl dX11_takesLoaf_61 ?_
          refine xq_iast B xh_57 dX11_takesLoaf_64 hf (fun s9 hf => ?_)
          refine xr_iinc B (v := (t2.1 + 1)) (lv2 := [some (.ref (ad 49)), some (.int v1), some (.int (t2.1 + 1))]) dX11_takesLoaf_65 rfl (congrArg (t2.1 + ·) (by decide : Int32.ofInt (1) = 1)) (by decide) rfl ?_
          refine xr_goto B (tgt := 9) dX11_takesLoaf_68 (by decide) ?_
          exact hrec3 (t2.1 + 1) s9 hf
      · refine xr_if_ne B (tgt := 29) dX11_takesLoaf_17 (by decide) hf (fun _ hf => ?_) (fun _ hf => ?_)
        · refine xr_aload_n B dX11_takesLoaf_20 rfl rfl ?_
          refine xr_getI B xg_X11_134 xh_49 rfl dX11_takesLoaf_21 ?_
          refine xr_iconst B (v := 1) dX11_takesLoaf_24 (by decide) ?_
          refine xr_isub B dX11_takesLoaf_25 ?_
          refine xr_goto B (tgt := 45) dX11_takesLoaf_26 (by decide) ?_
          exact hj7 ((t2.2.1 49 19) - 1) hf
        · refine xr_iload_n B dX11_takesLoaf_29 rfl rfl ?_
          refine xr_iconst B (v := 1) dX11_takesLoaf_30 (by decide) ?_
          refine xr_ic_ne B (tgt := 43) dX11_takesLoaf_31 (by decide) hf (fun _ hf => ?_) (fun _ hf => ?_)
          · refine xr_aload_n B dX11_takesLoaf_34 rfl rfl ?_
            refine xr_getI B xg_X11_124 xh_49 rfl dX11_takesLoaf_35 ?_
            refine xr_iconst B (v := 1) dX11_takesLoaf_38 (by decide) ?_
            refine xr_isub B dX11_takesLoaf_39 ?_
            refine xr_goto B (tgt := 45) dX11_takesLoaf_40 (by decide) ?_
            exact hj7 ((t2.2.1 49 17) - 1) hf
          · refine xr_bipush B (v := 99) dX11_takesLoaf_43 (by decide) ?_
            exact hj7 99 hf

noncomputable def xf_X11_takesMare (σ : xr_S) : Option (Int32 × xr_S) := xr_pf σ 49 22 1 (fun s1 => (xf_X11_takesNumber s1 0 ((s1.1 49 17) - 1)).bind (fun p2 => if p2.1 = 0 then (some (0, p2.2)) else (xr_pf p2.2 49 21 (p2.2.1 49 14) (fun s3 => some (1, s3)))))
set_option maxRecDepth 100000 in
set_option maxHeartbeats 4000000 in
theorem xc_X11_takesMare (l : Launch) (D : va_G) (ad : Nat → Nat) (ca : Nat → ClassId) (σ : xr_S) (q : (Int32 × xr_S)) (hf : xf_X11_takesMare σ = some q) : xr_M l D ad ca yX11_takesMare cX11_takesMare 1 (some .boolean) 3 63 [.ref (ad 49)] σ (some (.int q.1)) q.2 := by
  refine xr_openZ [some (.ref (ad 49))] xm_X11_takesMare (Nat.le_of_ble_eq_true rfl) rfl (fun J B RR => ?_)
  unfold xf_X11_takesMare at hf
  refine xr_aload_n B dX11_takesMare_0 rfl rfl ?_
  refine xr_iconst B (v := 1) dX11_takesMare_1 (by decide) ?_
  refine xq_put B xp_X11_140 rfl rfl xh_49 rfl dX11_takesMare_2 hf (fun s1 hf => ?_)
  refine xr_aload_n B dX11_takesMare_5 rfl rfl ?_
  refine xr_iconst B (v := 0) dX11_takesMare_6 (by decide) ?_
  refine xr_aload_n B dX11_takesMare_7 rfl rfl ?_
  refine xr_getI B xg_X11_124 xh_49 rfl dX11_takesMare_8 ?_
  refine xr_iconst B (v := 1) dX11_takesMare_11 (by decide) ?_
  refine xr_isub B dX11_takesMare_12 ?_
  refine xr_cVI B (rest := []) [.int 0, .int ((s1.1 49 17) - 1)] xm_X11_takesNumber xv_X11_121 (fun q hq => xc_X11_takesNumber l D ad ca s1 0 ((s1.1 49 17) - 1) q hq) xh_49 rfl rfl (by decide) rfl (Nat.le_of_ble_eq_true rfl) dX11_takesMare_13 hf (fun p2 hf => ?_)
  refine xr_if_ne B (tgt := 21) dX11_takesMare_16 (by decide) hf (fun _ hf => ?_) (fun _ hf => ?_)
  · refine xr_iconst B (v := 0) dX11_takesMare_19 (by decide) ?_
    obtain rfl := Option.some.inj hf
    exact RR _ _ _ (by decide) dX11_takesMare_20 rfl
  · refine xr_aload_n B dX11_takesMare_21 rfl rfl ?_
    refine xr_aload_n B dX11_takesMare_22 rfl rfl ?_
    refine xr_getI B xg_X11_118 xh_49 rfl dX11_takesMare_23 ?_
    refine xq_put B xp_X11_144 rfl rfl xh_49 rfl dX11_takesMare_26 hf (fun s3 hf => ?_)
    refine xr_iconst B (v := 1) dX11_takesMare_29 (by decide) ?_
    obtain rfl := Option.some.inj hf
    exact RR _ _ _ (by decide) dX11_takesMare_30 rfl

noncomputable def xf_X11_takesClause (σ : xr_S) : Option (Int32 × xr_S) := (xf_X11_here σ).bind (fun p1 => xr_jn (fun (w2 : Int32) => if w2 = 0 then ((xf_X11_fails p1.2 1 (p1.2.1 49 13)).bind (fun p4 => xr_zb p4.1 (some (p4.1, p4.2)))) else (xr_jn (fun (w5 : Int32) => if w5 = 0 then (xr_pf p1.2 49 12 ((p1.2.1 49 12) + 1) (fun s7 => xr_jn (fun (w8 : (Int32 × xr_S)) => if w8.1 = 0 then (some (0, w8.2)) else ((xf_X11_takes w8.2 59).bind (fun p10 => if p10.1 = 0 then (some (0, p10.2)) else (some (1, p10.2))))) (fun j9 => if p1.1 = 100 then ((xf_X11_takesDreams s7).bind (fun p11 => j9 (p11.1, p11.2))) else (if p1.1 = 115 then ((xf_X11_takesSleeper s7).bind (fun p12 => j9 (p12.1, p12.2))) else (if p1.1 = 108 then ((xf_X11_takesLoaf s7).bind (fun p13 => j9 (p13.1, p13.2))) else ((xf_X11_takesMare s7).bind (fun p14 => j9 (p14.1, p14.2)))))))) else ((xf_X11_fails p1.2 3 (p1.2.1 49 13)).bind (fun p15 => xr_zb p15.1 (some (p15.1, p15.2))))) (fun j6 => if p1.1 = 100 then (if (p1.2.1 49 17) ≤ 0 then (j6 0) else (j6 1)) else (if p1.1 = 115 then (if (p1.2.1 49 19) = 6 then (j6 1) else (j6 0)) else (if p1.1 = 108 then (if (p1.2.1 49 20) = 7 then (j6 1) else (j6 0)) else (j6 (p1.2.1 49 22))))))) (fun j3 => if p1.1 = 100 then (j3 1) else (if (p1.2.1 49 17) ≤ 0 then (j3 0) else (if p1.1 = 115 then (j3 1) else (if p1.1 = 108 then (j3 1) else (if p1.1 = 110 then (j3 1) else (j3 0)))))))
set_option maxRecDepth 100000 in
set_option maxHeartbeats 4000000 in
theorem xc_X11_takesClause (l : Launch) (D : va_G) (ad : Nat → Nat) (ca : Nat → ClassId) (σ : xr_S) (q : (Int32 × xr_S)) (hf : xf_X11_takesClause σ = some q) : xr_M l D ad ca yX11_takesClause cX11_takesClause 5 (some .boolean) 4 85 [.ref (ad 49)] σ (some (.int q.1)) q.2 := by
  refine xr_openZ [some (.ref (ad 49)), none, none, none, none] xm_X11_takesClause (Nat.le_of_ble_eq_true rfl) rfl (fun J B RR => ?_)
  unfold xf_X11_takesClause at hf
  refine xr_aload_n B dX11_takesClause_0 rfl rfl ?_
  refine xr_cVI B (rest := []) [] xm_X11_here xv_X11_106 (fun q hq => xc_X11_here l D ad ca σ q hq) xh_49 rfl rfl (by decide) rfl (Nat.le_of_ble_eq_true rfl) dX11_takesClause_1 hf (fun p1 hf => ?_)
  refine xr_istore_n B (lv2 := [some (.ref (ad 49)), some (.int p1.1), none, none, none]) dX11_takesClause_4 rfl (by decide) rfl ?_
  refine xr_iload_n B dX11_takesClause_5 rfl rfl ?_
  refine xr_bipush B (v := 100) dX11_takesClause_6 (by decide) ?_
  refine xr_meet (fun (w2 : Int32) => J 41 [some (.ref (ad 49)), some (.int p1.1), none, none, none] [.int w2] p1.2) hf (fun w2 hf => ?_) (fun j3 hj3 hf => ?_)
  · refine xr_istore_n B (lv2 := [some (.ref (ad 49)), some (.int p1.1), some (.int w2), none, none]) dX11_takesClause_41 rfl (by decide) rfl ?_
    refine xr_iload_n B dX11_takesClause_42 rfl rfl ?_
    refine xr_if_ne B (tgt := 56) dX11_takesClause_43 (by decide) hf (fun _ hf => ?_) (fun _ hf => ?_)
    · refine xr_aload_n B dX11_takesClause_46 rfl rfl ?_
      refine xr_iconst B (v := 1) dX11_takesClause_47 (by decide) ?_
      refine xr_aload_n B dX11_takesClause_48 rfl rfl ?_
      refine xr_getI B xg_X11_100 xh_49 rfl dX11_takesClause_49 ?_
      refine xr_cVI B (rest := []) [.int 1, .int (p1.2.1 49 13)] xm_X11_fails xv_X11_110 (fun q hq => xc_X11_fails l D ad ca p1.2 1 (p1.2.1 49 13) q hq) xh_49 rfl rfl (by decide) rfl (Nat.le_of_ble_eq_true rfl) dX11_takesClause_52 hf (fun p4 hf => ?_)
      obtain ⟨hz, hf⟩ := xq_zb hf
      obtain rfl := Option.some.inj hf
      exact RR _ _ _ hz dX11_takesClause_55 rfl
    · refine xr_iload_n B dX11_takesClause_56 rfl rfl ?_
      refine xr_bipush B (v := 100) dX11_takesClause_57 (by decide) ?_
      refine xr_meet (fun (w5 : Int32) => J 127 [some (.ref (ad 49)), some (.int p1.1), none, none, none] [.int w5] p1.2) hf (fun w5 hf => ?_) (fun j6 hj6 hf => ?_)
      · refine xr_istore_n B (lv2 := [some (.ref (ad 49)), some (.int p1.1), none, some (.int w5), none]) dX11_takesClause_127 rfl (by decide) rfl ?_
        refine xr_iload_n B dX11_takesClause_128 rfl rfl ?_
        refine xr_if_eq B (tgt := 142) dX11_takesClause_129 (by decide) hf (fun _ hf => ?_) (fun _ hf => ?_)
        · refine xr_aload_n B dX11_takesClause_142 rfl rfl ?_
          refine xr_dup B dX11_takesClause_143 rfl ?_
          refine xr_getI B xg_X11_93 xh_49 rfl dX11_takesClause_144 ?_
          refine xr_iconst B (v := 1) dX11_takesClause_147 (by decide) ?_
          refine xr_iadd B dX11_takesClause_148 ?_
          refine xq_put B xp_X11_93 rfl rfl xh_49 rfl dX11_takesClause_149 hf (fun s7 hf => ?_)
          refine xr_iload_n B dX11_takesClause_152 rfl rfl ?_
          refine xr_bipush B (v := 100) dX11_takesClause_153 (by decide) ?_
          refine xr_meet (fun (w8 : (Int32 × xr_S)) => J 195 [some (.ref (ad 49)), none, none, none, none] [.int w8.1] w8.2) hf (fun w8 hf => ?_) (fun j9 hj9 hf => ?_)
          · refine xr_istore B (lv2 := [some (.ref (ad 49)), none, none, none, some (.int w8.1)]) dX11_takesClause_195 (by decide) rfl ?_
            refine xr_iload B dX11_takesClause_197 rfl ?_
            refine xr_if_eq B (tgt := 215) dX11_takesClause_199 (by decide) hf (fun _ hf => ?_) (fun _ hf => ?_)
            · refine xr_iconst B (v := 0) dX11_takesClause_215 (by decide) ?_
              obtain rfl := Option.some.inj hf
              exact RR _ _ _ (by decide) dX11_takesClause_216 rfl
            · refine xr_aload_n B dX11_takesClause_202 rfl rfl ?_
              refine xr_bipush B (v := 59) dX11_takesClause_203 (by decide) ?_
              refine xr_cVI B (rest := []) [.int 59] xm_X11_takes xv_X11_130 (fun q hq => xc_X11_takes l D ad ca w8.2 59 q hq) xh_49 rfl rfl (by decide) rfl (Nat.le_of_ble_eq_true rfl) dX11_takesClause_205 hf (fun p10 hf => ?_)
              refine xr_if_eq B (tgt := 215) dX11_takesClause_208 (by decide) hf (fun _ hf => ?_) (fun _ hf => ?_)
              · refine xr_iconst B (v := 0) dX11_takesClause_215 (by decide) ?_
                obtain rfl := Option.some.inj hf
                exact RR _ _ _ (by decide) dX11_takesClause_216 rfl
              · refine xr_iconst B (v := 1) dX11_takesClause_211 (by decide) ?_
                refine xr_goto B (tgt := 216) dX11_takesClause_212 (by decide) ?_
                obtain rfl := Option.some.inj hf
                exact RR _ _ _ (by decide) dX11_takesClause_216 rfl
          · have hj9 : ∀ (b1 : Int32) (b2 : xr_S), j9 (b1, b2) = some q → J 195 [some (.ref (ad 49)), none, none, none, none] [.int b1] b2 := fun b1 b2 h => hj9 (b1, b2) h
            refine xr_ic_ne B (tgt := 165) dX11_takesClause_155 (by decide) hf (fun _ hf => ?_) (fun _ hf => ?_)
            · refine xr_aload_n B dX11_takesClause_158 rfl rfl ?_
              refine xr_cVI B (rest := []) [] xm_X11_takesDreams xv_X11_147 (fun q hq => xc_X11_takesDreams l D ad ca s7 q hq) xh_49 rfl rfl (by decide) rfl (Nat.le_of_ble_eq_true rfl) dX11_takesClause_159 hf (fun p11 hf => ?_)
              refine xr_goto B (tgt := 195) dX11_takesClause_162 (by decide) ?_
              refine xr_forget B (lv2 := [some (.ref (ad 49)), none, none, none, none]) ⟨rfl, trivial⟩ ?_
              exact hj9 p11.1 p11.2 hf
            · refine xr_iload_n B dX11_takesClause_165 rfl rfl ?_
              refine xr_bipush B (v := 115) dX11_takesClause_166 (by decide) ?_
              refine xr_ic_ne B (tgt := 178) dX11_takesClause_168 (by decide) hf (fun _ hf => ?_) (fun _ hf => ?_)
              · refine xr_aload_n B dX11_takesClause_171 rfl rfl ?_
                refine xr_cVI B (rest := []) [] xm_X11_takesSleeper xv_X11_151 (fun q hq => xc_X11_takesSleeper l D ad ca s7 q hq) xh_49 rfl rfl (by decide) rfl (Nat.le_of_ble_eq_true rfl) dX11_takesClause_172 hf (fun p12 hf => ?_)
                refine xr_goto B (tgt := 195) dX11_takesClause_175 (by decide) ?_
                refine xr_forget B (lv2 := [some (.ref (ad 49)), none, none, none, none]) ⟨rfl, trivial⟩ ?_
                exact hj9 p12.1 p12.2 hf
              · refine xr_iload_n B dX11_takesClause_178 rfl rfl ?_
                refine xr_bipush B (v := 108) dX11_takesClause_179 (by decide) ?_
                refine xr_ic_ne B (tgt := 191) dX11_takesClause_181 (by decide) hf (fun _ hf => ?_) (fun _ hf => ?_)
                · refine xr_aload_n B dX11_takesClause_184 rfl rfl ?_
                  refine xr_cVI B (rest := []) [] xm_X11_takesLoaf xv_X11_154 (fun q hq => xc_X11_takesLoaf l D ad ca s7 q hq) xh_49 rfl rfl (by decide) rfl (Nat.le_of_ble_eq_true rfl) dX11_takesClause_185 hf (fun p13 hf => ?_)
                  refine xr_goto B (tgt := 195) dX11_takesClause_188 (by decide) ?_
                  refine xr_forget B (lv2 := [some (.ref (ad 49)), none, none, none, none]) ⟨rfl, trivial⟩ ?_
                  exact hj9 p13.1 p13.2 hf
                · refine xr_aload_n B dX11_takesClause_191 rfl rfl ?_
                  refine xr_cVI B (rest := []) [] xm_X11_takesMare xv_X11_157 (fun q hq => xc_X11_takesMare l D ad ca s7 q hq) xh_49 rfl rfl (by decide) rfl (Nat.le_of_ble_eq_true rfl) dX11_takesClause_192 hf (fun p14 hf => ?_)
                  refine xr_forget B (lv2 := [some (.ref (ad 49)), none, none, none, none]) ⟨rfl, trivial⟩ ?_
                  exact hj9 p14.1 p14.2 hf
        · refine xr_aload_n B dX11_takesClause_132 rfl rfl ?_
          refine xr_iconst B (v := 3) dX11_takesClause_133 (by decide) ?_
          refine xr_aload_n B dX11_takesClause_134 rfl rfl ?_
          refine xr_getI B xg_X11_100 xh_49 rfl dX11_takesClause_135 ?_
          refine xr_cVI B (rest := []) [.int 3, .int (p1.2.1 49 13)] xm_X11_fails xv_X11_110 (fun q hq => xc_X11_fails l D ad ca p1.2 3 (p1.2.1 49 13) q hq) xh_49 rfl rfl (by decide) rfl (Nat.le_of_ble_eq_true rfl) dX11_takesClause_138 hf (fun p15 hf => ?_)
          obtain ⟨hz, hf⟩ := xq_zb hf
          obtain rfl := Option.some.inj hf
          exact RR _ _ _ hz dX11_takesClause_141 rfl
      · refine xr_ic_ne B (tgt := 77) dX11_takesClause_59 (by decide) hf (fun _ hf => ?_) (fun _ hf => ?_)
        · refine xr_aload_n B dX11_takesClause_62 rfl rfl ?_
          refine xr_getI B xg_X11_124 xh_49 rfl dX11_takesClause_63 ?_
          refine xr_if_le B (tgt := 73) dX11_takesClause_66 (by decide) hf (fun _ hf => ?_) (fun _ hf => ?_)
          · refine xr_iconst B (v := 0) dX11_takesClause_73 (by decide) ?_
            refine xr_goto B (tgt := 127) dX11_takesClause_74 (by decide) ?_
            refine xr_forget B (lv2 := [some (.ref (ad 49)), some (.int p1.1), none, none, none]) ⟨rfl, ⟨rfl, trivial⟩⟩ ?_
            exact hj6 0 hf
          · refine xr_iconst B (v := 1) dX11_takesClause_69 (by decide) ?_
            refine xr_goto B (tgt := 127) dX11_takesClause_70 (by decide) ?_
            refine xr_forget B (lv2 := [some (.ref (ad 49)), some (.int p1.1), none, none, none]) ⟨rfl, ⟨rfl, trivial⟩⟩ ?_
            exact hj6 1 hf
        · refine xr_iload_n B dX11_takesClause_77 rfl rfl ?_
          refine xr_bipush B (v := 115) dX11_takesClause_78 (by decide) ?_
          refine xr_ic_ne B (tgt := 100) dX11_takesClause_80 (by decide) hf (fun _ hf => ?_) (fun _ hf => ?_)
          · refine xr_aload_n B dX11_takesClause_83 rfl rfl ?_
            refine xr_getI B xg_X11_134 xh_49 rfl dX11_takesClause_84 ?_
            refine xr_bipush B (v := 6) dX11_takesClause_87 (by decide) ?_
            refine xr_ic_ne B (tgt := 96) dX11_takesClause_89 (by decide) hf (fun _ hf => ?_) (fun _ hf => ?_)
            · refine xr_iconst B (v := 1) dX11_takesClause_92 (by decide) ?_
              refine xr_goto B (tgt := 127) dX11_takesClause_93 (by decide) ?_
              refine xr_forget B (lv2 := [some (.ref (ad 49)), some (.int p1.1), none, none, none]) ⟨rfl, ⟨rfl, trivial⟩⟩ ?_
              exact hj6 1 hf
            · refine xr_iconst B (v := 0) dX11_takesClause_96 (by decide) ?_
              refine xr_goto B (tgt := 127) dX11_takesClause_97 (by decide) ?_
              refine xr_forget B (lv2 := [some (.ref (ad 49)), some (.int p1.1), none, none, none]) ⟨rfl, ⟨rfl, trivial⟩⟩ ?_
              exact hj6 0 hf
          · refine xr_iload_n B dX11_takesClause_100 rfl rfl ?_
            refine xr_bipush B (v := 108) dX11_takesClause_101 (by decide) ?_
            refine xr_ic_ne B (tgt := 123) dX11_takesClause_103 (by decide) hf (fun _ hf => ?_) (fun _ hf => ?_)
            · refine xr_aload_n B dX11_takesClause_106 rfl rfl ?_
              refine xr_getI B xg_X11_137 xh_49 rfl dX11_takesClause_107 ?_
              refine xr_bipush B (v := 7) dX11_takesClause_110 (by decide) ?_
              refine xr_ic_ne B (tgt := 119) dX11_takesClause_112 (by decide) hf (fun _ hf => ?_) (fun _ hf => ?_)
              · refine xr_iconst B (v := 1) dX11_takesClause_115 (by decide) ?_
                refine xr_goto B (tgt := 127) dX11_takesClause_116 (by decide) ?_
                refine xr_forget B (lv2 := [some (.ref (ad 49)), some (.int p1.1), none, none, none]) ⟨rfl, ⟨rfl, trivial⟩⟩ ?_
                exact hj6 1 hf
              · refine xr_iconst B (v := 0) dX11_takesClause_119 (by decide) ?_
                refine xr_goto B (tgt := 127) dX11_takesClause_120 (by decide) ?_
                refine xr_forget B (lv2 := [some (.ref (ad 49)), some (.int p1.1), none, none, none]) ⟨rfl, ⟨rfl, trivial⟩⟩ ?_
                exact hj6 0 hf
            · refine xr_aload_n B dX11_takesClause_123 rfl rfl ?_
              refine xr_getI B xg_X11_140 xh_49 rfl dX11_takesClause_124 ?_
              refine xr_forget B (lv2 := [some (.ref (ad 49)), some (.int p1.1), none, none, none]) ⟨rfl, ⟨rfl, trivial⟩⟩ ?_
              exact hj6 (p1.2.1 49 22) hf
  · refine xr_ic_eq B (tgt := 36) dX11_takesClause_8 (by decide) hf (fun _ hf => ?_) (fun _ hf => ?_)
    · refine xr_iconst B (v := 1) dX11_takesClause_36 (by decide) ?_
      refine xr_goto B (tgt := 41) dX11_takesClause_37 (by decide) ?_
      exact hj3 1 hf
    · refine xr_aload_n B dX11_takesClause_11 rfl rfl ?_
      refine xr_getI B xg_X11_124 xh_49 rfl dX11_takesClause_12 ?_
      refine xr_if_le B (tgt := 40) dX11_takesClause_15 (by decide) hf (fun _ hf => ?_) (fun _ hf => ?_)
      · refine xr_iconst B (v := 0) dX11_takesClause_40 (by decide) ?_
        exact hj3 0 hf
      · refine xr_iload_n B dX11_takesClause_18 rfl rfl ?_
        refine xr_bipush B (v := 115) dX11_takesClause_19 (by decide) ?_
        refine xr_ic_eq B (tgt := 36) dX11_takesClause_21 (by decide) hf (fun _ hf => ?_) (fun _ hf => ?_)
        · refine xr_iconst B (v := 1) dX11_takesClause_36 (by decide) ?_
          refine xr_goto B (tgt := 41) dX11_takesClause_37 (by decide) ?_
          exact hj3 1 hf
        · refine xr_iload_n B dX11_takesClause_24 rfl rfl ?_
          refine xr_bipush B (v := 108) dX11_takesClause_25 (by decide) ?_
          refine xr_ic_eq B (tgt := 36) dX11_takesClause_27 (by decide) hf (fun _ hf => ?_) (fun _ hf => ?_)
          · refine xr_iconst B (v := 1) dX11_takesClause_36 (by decide) ?_
            refine xr_goto B (tgt := 41) dX11_takesClause_37 (by decide) ?_
            exact hj3 1 hf
          · refine xr_iload_n B dX11_takesClause_30 rfl rfl ?_
            refine xr_bipush B (v := 110) dX11_takesClause_31 (by decide) ?_
            refine xr_ic_ne B (tgt := 40) dX11_takesClause_33 (by decide) hf (fun _ hf => ?_) (fun _ hf => ?_)
            · refine xr_iconst B (v := 1) dX11_takesClause_36 (by decide) ?_
              refine xr_goto B (tgt := 41) dX11_takesClause_37 (by decide) ?_
              exact hj3 1 hf
            · refine xr_iconst B (v := 0) dX11_takesClause_40 (by decide) ?_
              exact hj3 0 hf

noncomputable def xf_X11_street_L47  (K13 : (Int32 × xr_S) → Option (Int32 × xr_S)) (t10 : (Int32 × xr_S)) (rec11 : (Int32 × xr_S) → Option (Int32 × xr_S)) : Option (Int32 × xr_S) := if t10.1 = 0 then (K13 (t10.1, t10.2)) else ((xf_X11_here t10.2).bind (fun p14 => if p14.1 = (-1) then (K13 (t10.1, p14.2)) else ((xf_X11_takesClause p14.2).bind (fun p15 => rec11 (p15.1, p15.2)))))
noncomputable def xf_X11_street_L140 (t23 : (Int32 × xr_S)) (K30 : xr_S → Option (Int32 × xr_S)) (t27 : (Int32 × xr_S)) (rec28 : (Int32 × xr_S) → Option (Int32 × xr_S)) : Option (Int32 × xr_S) := if (t27.2.1 49 2) ≤ t27.1 then (K30 t27.2) else (xr_ld t27.2 56 30 ((5 * t23.1) + t27.1) (fun v31 => xr_st t27.2 50 220 ((0 + (5 * t23.1)) + t27.1) v31 (fun s32 => rec28 ((t27.1 + 1), s32))))
noncomputable def xf_X11_street_L130  (K26 : xr_S → Option (Int32 × xr_S)) (t23 : (Int32 × xr_S)) (rec24 : (Int32 × xr_S) → Option (Int32 × xr_S)) : Option (Int32 × xr_S) := if (t23.2.1 49 4) ≤ t23.1 then (K26 t23.2) else (xr_lw (xf_X11_street_L140 t23 (fun (e29 : xr_S) => rec24 ((t23.1 + 1), e29))) (0, t23.2))
noncomputable def xf_X11_street_L184  (K38 : xr_S → Option (Int32 × xr_S)) (t35 : (Int32 × xr_S)) (rec36 : (Int32 × xr_S) → Option (Int32 × xr_S)) : Option (Int32 × xr_S) := if (t35.2.1 49 5) ≤ t35.1 then (K38 t35.2) else (xr_ld t35.2 57 21 (3 * t35.1) (fun v39 => xr_st t35.2 52 7 t35.1 v39 (fun s40 => xr_ld s40 57 21 ((3 * t35.1) + 1) (fun v41 => xr_st s40 53 7 t35.1 v41 (fun s42 => xr_ld s42 57 21 ((3 * t35.1) + 2) (fun v43 => xr_st s42 54 7 t35.1 v43 (fun s44 => rec36 ((t35.1 + 1), s44))))))))
noncomputable def xf_X11_street (σ : xr_S) : Option (Int32 × xr_S) := xr_pf σ 49 12 0 (fun s1 => xr_pf s1 49 15 0 (fun s2 => xr_pf s2 49 16 (-1) (fun s3 => xr_pf s3 49 17 0 (fun s4 => xr_pf s4 49 18 0 (fun s5 => xr_pf s5 49 19 0 (fun s6 => xr_pf s6 49 20 0 (fun s7 => xr_pf s7 49 21 0 (fun s8 => xr_pf s8 49 22 0 (fun s9 => xr_lw (xf_X11_street_L47 (fun (e12 : (Int32 × xr_S)) => xr_pf e12.2 49 11 0 (fun s16 => if e12.1 = 0 then (some (((-10) - (s16.1 49 15)), s16)) else (xr_pf s16 49 2 (s16.1 49 17) (fun s17 => xr_pf s17 49 3 (s17.1 49 18) (fun s18 => xr_pf s18 49 4 (s18.1 49 19) (fun s19 => xr_pf s19 49 5 (s19.1 49 20) (fun s20 => xr_pf s20 49 6 (s20.1 49 21) (fun s21 => (xf_X11_begins s21).bind (fun s22 => xr_lw (xf_X11_street_L130 (fun (e25 : xr_S) => xr_lw (xf_X11_street_L184 (fun (e37 : xr_S) => xr_pf e37 49 28 0 (fun s46 => xr_pf s46 49 33 0 (fun s47 => xr_st s47 51 2 0 0 (fun s48 => xr_st s48 51 2 1 0 (fun s49 => some ((s49.1 49 4), s49))))))) (0, e25))) (0, s22))))))))))) (1, s9))))))))))
set_option maxRecDepth 100000 in
set_option maxHeartbeats 4000000 in
theorem xc_X11_street (l : Launch) (D : va_G) (ad : Nat → Nat) (ca : Nat → ClassId) (σ : xr_S) (q : (Int32 × xr_S)) (hf : xf_X11_street σ = some q) : xr_M l D ad ca yX11_street cX11_street 4 (some .int) 5 109 [.ref (ad 49)] σ (some (.int q.1)) q.2 := by
  refine xr_openI [some (.ref (ad 49)), none, none, none] xm_X11_street (Nat.le_of_ble_eq_true rfl) rfl (fun J B RR => ?_)
  unfold xf_X11_street at hf
  refine xr_aload_n B dX11_street_0 rfl rfl ?_
  refine xr_iconst B (v := 0) dX11_street_1 (by decide) ?_
  refine xq_put B xp_X11_93 rfl rfl xh_49 rfl dX11_street_2 hf (fun s1 hf => ?_)
  refine xr_aload_n B dX11_street_5 rfl rfl ?_
  refine xr_iconst B (v := 0) dX11_street_6 (by decide) ?_
  refine xq_put B xp_X11_103 rfl rfl xh_49 rfl dX11_street_7 hf (fun s2 hf => ?_)
  refine xr_aload_n B dX11_street_10 rfl rfl ?_
  refine xr_iconst B (v := (-1)) dX11_street_11 (by decide) ?_
  refine xq_put B xp_X11_29 rfl rfl xh_49 rfl dX11_street_12 hf (fun s3 hf => ?_)
  refine xr_aload_n B dX11_street_15 rfl rfl ?_
  refine xr_iconst B (v := 0) dX11_street_16 (by decide) ?_
  refine xq_put B xp_X11_124 rfl rfl xh_49 rfl dX11_street_17 hf (fun s4 hf => ?_)
  refine xr_aload_n B dX11_street_20 rfl rfl ?_
  refine xr_iconst B (v := 0) dX11_street_21 (by decide) ?_
  refine xq_put B xp_X11_127 rfl rfl xh_49 rfl dX11_street_22 hf (fun s5 hf => ?_)
  refine xr_aload_n B dX11_street_25 rfl rfl ?_
  refine xr_iconst B (v := 0) dX11_street_26 (by decide) ?_
  refine xq_put B xp_X11_134 rfl rfl xh_49 rfl dX11_street_27 hf (fun s6 hf => ?_)
  refine xr_aload_n B dX11_street_30 rfl rfl ?_
  refine xr_iconst B (v := 0) dX11_street_31 (by decide) ?_
  refine xq_put B xp_X11_137 rfl rfl xh_49 rfl dX11_street_32 hf (fun s7 hf => ?_)
  refine xr_aload_n B dX11_street_35 rfl rfl ?_
  refine xr_iconst B (v := 0) dX11_street_36 (by decide) ?_
  refine xq_put B xp_X11_144 rfl rfl xh_49 rfl dX11_street_37 hf (fun s8 hf => ?_)
  refine xr_aload_n B dX11_street_40 rfl rfl ?_
  refine xr_iconst B (v := 0) dX11_street_41 (by decide) ?_
  refine xq_put B xp_X11_140 rfl rfl xh_49 rfl dX11_street_42 hf (fun s9 hf => ?_)
  refine xr_iconst B (v := 1) dX11_street_45 (by decide) ?_
  refine xr_istore_n B (lv2 := [some (.ref (ad 49)), some (.int 1), none, none]) dX11_street_46 rfl (by decide) rfl ?_
  refine xq_loop (fun (t10 : (Int32 × xr_S)) => J 47 [some (.ref (ad 49)), some (.int t10.1), none, none] [] t10.2) (fun (e12 : (Int32 × xr_S)) => J 67 [some (.ref (ad 49)), some (.int e12.1), none, none] [] e12.2) hf (fun e12 hf => ?_) (fun K13 hK13 t10 rec11 hrec11 hf => ?_)
  · refine xr_aload_n B dX11_street_67 rfl rfl ?_
    refine xr_iconst B (v := 0) dX11_street_68 (by decide) ?_
    refine xq_put B xp_X11_89 rfl rfl xh_49 rfl dX11_street_69 hf (fun s16 hf => ?_)
    refine xr_iload_n B dX11_street_72 rfl rfl ?_
    refine xr_if_ne B (tgt := 84) dX11_street_73 (by decide) hf (fun _ hf => ?_) (fun _ hf => ?_)
    · refine xr_bipush B (v := (-10)) dX11_street_76 (by decide) ?_
      refine xr_aload_n B dX11_street_78 rfl rfl ?_
      refine xr_getI B xg_X11_103 xh_49 rfl dX11_street_79 ?_
      refine xr_isub B dX11_street_82 ?_
      obtain rfl := Option.some.inj hf
      exact RR _ _ _ dX11_street_83 rfl
    · refine xr_aload_n B dX11_street_84 rfl rfl ?_
      refine xr_aload_n B dX11_street_85 rfl rfl ?_
      refine xr_getI B xg_X11_124 xh_49 rfl dX11_street_86 ?_
      refine xq_put B xp_X11_80 rfl rfl xh_49 rfl dX11_street_89 hf (fun s17 hf => ?_)
      refine xr_aload_n B dX11_street_92 rfl rfl ?_
      refine xr_aload_n B dX11_street_93 rfl rfl ?_
      refine xr_getI B xg_X11_127 xh_49 rfl dX11_street_94 ?_
      refine xq_put B xp_X11_163 rfl rfl xh_49 rfl dX11_street_97 hf (fun s18 hf => ?_)
      refine xr_aload_n B dX11_street_100 rfl rfl ?_
      refine xr_aload_n B dX11_street_101 rfl rfl ?_
      refine xr_getI B xg_X11_134 xh_49 rfl dX11_street_102 ?_
      refine xq_put B xp_X11_73 rfl rfl xh_49 rfl dX11_street_105 hf (fun s19 hf => ?_)
      refine xr_aload_n B dX11_street_108 rfl rfl ?_
      refine xr_aload_n B dX11_street_109 rfl rfl ?_
      refine xr_getI B xg_X11_137 xh_49 rfl dX11_street_110 ?_
      refine xq_put B xp_X11_83 rfl rfl xh_49 rfl dX11_street_113 hf (fun s20 hf => ?_)
      refine xr_aload_n B dX11_street_116 rfl rfl ?_
      refine xr_aload_n B dX11_street_117 rfl rfl ?_
      refine xr_getI B xg_X11_144 xh_49 rfl dX11_street_118 ?_
      refine xq_put B xp_X11_166 rfl rfl xh_49 rfl dX11_street_121 hf (fun s21 hf => ?_)
      refine xr_aload_n B dX11_street_124 rfl rfl ?_
      refine xr_cVv B (rest := []) [] xm_X11_begins xv_X11_70 (fun q hq => xc_X11_begins l D ad ca s21 q hq) xh_49 rfl rfl (by decide) rfl (Nat.le_of_ble_eq_true rfl) dX11_street_125 hf (fun s22 hf => ?_)
      refine xr_iconst B (v := 0) dX11_street_128 (by decide) ?_
      refine xr_istore_n B (lv2 := [some (.ref (ad 49)), some (.int e12.1), some (.int 0), none]) dX11_street_129 rfl (by decide) rfl ?_
      refine xr_forget B (lv2 := [some (.ref (ad 49)), none, some (.int 0), none]) ⟨rfl, ⟨rfl, trivial⟩⟩ ?_
      refine xq_loop (fun (t23 : (Int32 × xr_S)) => J 130 [some (.ref (ad 49)), none, some (.int t23.1), none] [] t23.2) (fun (e25 : xr_S) => J 182 [some (.ref (ad 49)), none, none, none] [] e25) hf (fun e25 hf => ?_) (fun K26 hK26 t23 rec24 hrec24 hf => ?_)
      · refine xr_iconst B (v := 0) dX11_street_182 (by decide) ?_
        refine xr_istore_n B (lv2 := [some (.ref (ad 49)), none, some (.int 0), none]) dX11_street_183 rfl (by decide) rfl ?_
        refine xq_loop (fun (t35 : (Int32 × xr_S)) => J 184 [some (.ref (ad 49)), none, some (.int t35.1), none] [] t35.2) (fun (e37 : xr_S) => J 244 [some (.ref (ad 49)), none, none, none] [] e37) hf (fun e37 hf => ?_) (fun K38 hK38 t35 rec36 hrec36 hf => ?_)
        · refine xr_aload_n B dX11_street_244 rfl rfl ?_
          refine xr_iconst B (v := 0) dX11_street_245 (by decide) ?_
          refine xq_put B xp_X11_169 rfl rfl xh_49 rfl dX11_street_246 hf (fun s46 hf => ?_)
          refine xr_aload_n B dX11_street_249 rfl rfl ?_
          refine xr_iconst B (v := 0) dX11_street_250 (by decide) ?_
          refine xq_put B xp_X11_172 rfl rfl xh_49 rfl dX11_street_251 hf (fun s47 hf => ?_)
          refine xr_aload_n B dX11_street_254 rfl rfl ?_
          refine xr_getR B xg_X11_13 xh_49 rfl dX11_street_255 ?_
          refine xr_iconst B (v := 0) dX11_street_258 (by decide) ?_
          refine xr_iconst B (v := 0) dX11_street_259 (by decide) ?_
          refine xq_bast B rfl xh_51 dX11_street_260 hf (fun s48 hf => ?_)
          refine xr_aload_n B dX11_street_261 rfl rfl ?_
          refine xr_getR B xg_X11_13 xh_49 rfl dX11_street_262 ?_
          refine xr_iconst B (v := 1) dX11_street_265 (by decide) ?_
          refine xr_iconst B (v := 0) dX11_street_266 (by decide) ?_
          refine xq_bast B rfl xh_51 dX11_street_267 hf (fun s49 hf => ?_)
          refine xr_aload_n B dX11_street_268 rfl rfl ?_
          refine xr_getI B xg_X11_73 xh_49 rfl dX11_street_269 ?_
          obtain rfl := Option.some.inj hf
          exact RR _ _ _ dX11_street_272 rfl
        · have hrec36 : ∀ (b1 : Int32) (b2 : xr_S), rec36 (b1, b2) = some q → J 184 [some (.ref (ad 49)), none, some (.int b1), none] [] b2 := fun b1 b2 h => hrec36 (b1, b2) h
          unfold xf_X11_street_L184 at hf
          refine xr_iload_n B dX11_street_184 rfl rfl ?_
          refine xr_aload_n B dX11_street_185 rfl rfl ?_
          refine xr_getI B xg_X11_83 xh_49 rfl dX11_street_186 ?_
          refine xr_ic_ge B (tgt := 244) dX11_street_189 (by decide) hf (fun _ hf => ?_) (fun _ hf => ?_)
          · refine xr_forget B (lv2 := [some (.ref (ad 49)), none, none, none]) ⟨rfl, trivial⟩ ?_
            exact hK38 t35.2 hf
          · refine xr_aload_n B dX11_street_192 rfl rfl ?_
            refine xr_getR B xg_X11_17 xh_49 rfl dX11_street_193 ?_
            refine xr_iload_n B dX11_street_196 rfl rfl ?_
            refine xr_aload_n B dX11_street_197 rfl rfl ?_
            refine xr_getR B xg_X11_36 xh_49 rfl dX11_street_198 ?_
            refine xr_iconst B (v := 3) dX11_street_201 (by decide) ?_
            refine xr_iload_n B dX11_street_202 rfl rfl ?_
            refine xr_imul B dX11_street_203 ?_
            refine xq_iald B xh_57 dX11_street_204 hf (fun v39 hf => ?_)
            refine xq_iast B xh_52 dX11_street_205 hf (fun s40 hf => ?_)
            refine xr_aload_n B dX11_street_206 rfl rfl ?_
            refine xr_getR B xg_X11_20 xh_49 rfl dX11_street_207 ?_
            refine xr_iload_n B dX11_street_210 rfl rfl ?_
            refine xr_aload_n B dX11_street_211 rfl rfl ?_
            refine xr_getR B xg_X11_36 xh_49 rfl dX11_street_212 ?_
            refine xr_iconst B (v := 3) dX11_street_215 (by decide) ?_
            refine xr_iload_n B dX11_street_216 rfl rfl ?_
            refine xr_imul B dX11_street_217 ?_
            refine xr_iconst B (v := 1) dX11_street_218 (by decide) ?_
            refine xr_iadd B dX11_street_219 ?_
            refine xq_iald B xh_57 dX11_street_220 hf (fun v41 hf => ?_)
            refine xq_iast B xh_53 dX11_street_221 hf (fun s42 hf => ?_)
            refine xr_aload_n B dX11_street_222 rfl rfl ?_
            refine xr_getR B xg_X11_23 xh_49 rfl dX11_street_223 ?_
            refine xr_iload_n B dX11_street_226 rfl rfl ?_
            refine xr_aload_n B dX11_street_227 rfl rfl ?_
            refine xr_getR B xg_X11_36 xh_49 rfl dX11_street_228 ?_
            refine xr_iconst B (v := 3) dX11_street_231 (by decide) ?_
            refine xr_iload_n B dX11_street_232 rfl rfl ?_
            refine xr_imul B dX11_street_233 ?_
            refine xr_iconst B (v := 2) dX11_street_234 (by decide) ?_
            refine xr_iadd B dX11_street_235 ?_
            refine xq_iald B xh_57 dX11_street_236 hf (fun v43 hf => ?_)
            refine xq_iast B xh_54 dX11_street_237 hf (fun s44 hf => ?_)
            refine xr_iinc B (v := (t35.1 + 1)) (lv2 := [some (.ref (ad 49)), none, some (.int (t35.1 + 1)), none]) dX11_street_238 rfl (congrArg (t35.1 + ·) (by decide : Int32.ofInt (1) = 1)) (by decide) rfl ?_
            refine xr_goto B (tgt := 184) dX11_street_241 (by decide) ?_
            exact hrec36 (t35.1 + 1) s44 hf
      · have hrec24 : ∀ (b1 : Int32) (b2 : xr_S), rec24 (b1, b2) = some q → J 130 [some (.ref (ad 49)), none, some (.int b1), none] [] b2 := fun b1 b2 h => hrec24 (b1, b2) h
        unfold xf_X11_street_L130 at hf
        refine xr_iload_n B dX11_street_130 rfl rfl ?_
        refine xr_aload_n B dX11_street_131 rfl rfl ?_
        refine xr_getI B xg_X11_73 xh_49 rfl dX11_street_132 ?_
        refine xr_ic_ge B (tgt := 182) dX11_street_135 (by decide) hf (fun _ hf => ?_) (fun _ hf => ?_)
        · refine xr_forget B (lv2 := [some (.ref (ad 49)), none, none, none]) ⟨rfl, trivial⟩ ?_
          exact hK26 t23.2 hf
        · refine xr_iconst B (v := 0) dX11_street_138 (by decide) ?_
          refine xr_istore_n B (lv2 := [some (.ref (ad 49)), none, some (.int t23.1), some (.int 0)]) dX11_street_139 rfl (by decide) rfl ?_
          refine xq_loop (fun (t27 : (Int32 × xr_S)) => J 140 [some (.ref (ad 49)), none, some (.int t23.1), some (.int t27.1)] [] t27.2) (fun (e29 : xr_S) => J 176 [some (.ref (ad 49)), none, some (.int t23.1), none] [] e29) hf (fun e29 hf => ?_) (fun K30 hK30 t27 rec28 hrec28 hf => ?_)
          · refine xr_iinc B (v := (t23.1 + 1)) (lv2 := [some (.ref (ad 49)), none, some (.int (t23.1 + 1)), none]) dX11_street_176 rfl (congrArg (t23.1 + ·) (by decide : Int32.ofInt (1) = 1)) (by decide) rfl ?_
            refine xr_goto B (tgt := 130) dX11_street_179 (by decide) ?_
            exact hrec24 (t23.1 + 1) e29 hf
          · have hrec28 : ∀ (b1 : Int32) (b2 : xr_S), rec28 (b1, b2) = some q → J 140 [some (.ref (ad 49)), none, some (.int t23.1), some (.int b1)] [] b2 := fun b1 b2 h => hrec28 (b1, b2) h
            unfold xf_X11_street_L140 at hf
            refine xr_iload_n B dX11_street_140 rfl rfl ?_
            refine xr_aload_n B dX11_street_141 rfl rfl ?_
            refine xr_getI B xg_X11_80 xh_49 rfl dX11_street_142 ?_
            refine xr_ic_ge B (tgt := 176) dX11_street_145 (by decide) hf (fun _ hf => ?_) (fun _ hf => ?_)
            · refine xr_forget B (lv2 := [some (.ref (ad 49)), none, some (.int t23.1), none]) ⟨rfl, ⟨rfl, trivial⟩⟩ ?_
              exact hK30 t27.2 hf
            · refine xr_aload_n B dX11_street_148 rfl rfl ?_
              refine xr_getR B xg_X11_7 xh_49 rfl dX11_street_149 ?_
              refine xr_iconst B (v := 0) dX11_street_152 (by decide) ?_
              refine xr_iconst B (v := 5) dX11_street_153 (by decide) ?_
              refine xr_iload_n B dX11_street_154 rfl rfl ?_
              refine xr_imul B dX11_street_155 ?_
              refine xr_iadd B dX11_street_156 ?_
              refine xr_iload_n B dX11_street_157 rfl rfl ?_
              refine xr_iadd B dX11_street_158 ?_
              refine xr_aload_n B dX11_street_159 rfl rfl ?_
              refine xr_getR B xg_X11_33 xh_49 rfl dX11_street_160 ?_
              refine xr_iconst B (v := 5) dX11_street_163 (by decide) ?_
              refine xr_iload_n B dX11_street_164 rfl rfl ?_
              refine xr_imul B dX11_street_165 ?_
              refine xr_iload_n B dX11_street_166 rfl rfl ?_
              refine xr_iadd B dX11_street_167 ?_
              refine xq_iald B xh_56 dX11_street_168 hf (fun v31 hf => ?_)
              refine xq_iast B xh_50 dX11_street_169 hf (fun s32 hf => ?_)
              refine xr_iinc B (v := (t27.1 + 1)) (lv2 := [some (.ref (ad 49)), none, some (.int t23.1), some (.int (t27.1 + 1))]) dX11_street_170 rfl (congrArg (t27.1 + ·) (by decide : Int32.ofInt (1) = 1)) (by decide) rfl ?_
              refine xr_goto B (tgt := 140) dX11_street_173 (by decide) ?_
              exact hrec28 (t27.1 + 1) s32 hf
  · have hrec11 : ∀ (b1 : Int32) (b2 : xr_S), rec11 (b1, b2) = some q → J 47 [some (.ref (ad 49)), some (.int b1), none, none] [] b2 := fun b1 b2 h => hrec11 (b1, b2) h
    have hK13 : ∀ (b1 : Int32) (b2 : xr_S), K13 (b1, b2) = some q → J 67 [some (.ref (ad 49)), some (.int b1), none, none] [] b2 := fun b1 b2 h => hK13 (b1, b2) h
    unfold xf_X11_street_L47 at hf
    refine xr_iload_n B dX11_street_47 rfl rfl ?_
    refine xr_if_eq B (tgt := 67) dX11_street_48 (by decide) hf (fun _ hf => ?_) (fun _ hf => ?_)
    · exact hK13 t10.1 t10.2 hf
    · refine xr_aload_n B dX11_street_51 rfl rfl ?_
      refine xr_cVI B (rest := []) [] xm_X11_here xv_X11_106 (fun q hq => xc_X11_here l D ad ca t10.2 q hq) xh_49 rfl rfl (by decide) rfl (Nat.le_of_ble_eq_true rfl) dX11_street_52 hf (fun p14 hf => ?_)
      refine xr_iconst B (v := (-1)) dX11_street_55 (by decide) ?_
      refine xr_ic_eq B (tgt := 67) dX11_street_56 (by decide) hf (fun _ hf => ?_) (fun _ hf => ?_)
      · exact hK13 t10.1 p14.2 hf
      · refine xr_aload_n B dX11_street_59 rfl rfl ?_
        refine xr_cVI B (rest := []) [] xm_X11_takesClause xv_X11_160 (fun q hq => xc_X11_takesClause l D ad ca p14.2 q hq) xh_49 rfl rfl (by decide) rfl (Nat.le_of_ble_eq_true rfl) dX11_street_60 hf (fun p15 hf => ?_)
        refine xr_istore_n B (lv2 := [some (.ref (ad 49)), some (.int p15.1), none, none]) dX11_street_63 rfl (by decide) rfl ?_
        refine xr_goto B (tgt := 47) dX11_street_64 (by decide) ?_
        exact hrec11 p15.1 p15.2 hf

noncomputable def xf_X11_fault (σ : xr_S) : Option Int32 := some (σ.1 49 16)
set_option maxRecDepth 100000 in
set_option maxHeartbeats 4000000 in
theorem xc_X11_fault (l : Launch) (D : va_G) (ad : Nat → Nat) (ca : Nat → ClassId) (σ : xr_S) (q : Int32) (hf : xf_X11_fault σ = some q) : xr_M l D ad ca yX11_fault cX11_fault 1 (some .int) 0 0 [.ref (ad 49)] σ (some (.int q)) σ := by
  refine xr_openI [some (.ref (ad 49))] xm_X11_fault (Nat.le_of_ble_eq_true rfl) rfl (fun J B RR => ?_)
  unfold xf_X11_fault at hf
  refine xr_aload_n B dX11_fault_0 rfl rfl ?_
  refine xr_getI B xg_X11_29 xh_49 rfl dX11_fault_1 ?_
  obtain rfl := Option.some.inj hf
  exact RR _ _ _ dX11_fault_4 rfl

noncomputable def xf_X11_loavesBy_L4 (σ : xr_S) (a1 : Int32) (K4 : Int32 → Option Int32) (t1 : (Int32 × Int32)) (rec2 : (Int32 × Int32) → Option Int32) : Option Int32 := if (σ.1 49 5) ≤ t1.2 then (K4 t1.1) else (xr_jn (fun (w5 : Int32) => xr_jn (fun (w7 : Int32) => xr_v ((t1.1 ||| w7)) (fun v9 => rec2 (v9, (t1.2 + 1)))) (fun j8 => if w5 = 0 then (j8 0) else (j8 ((1 : Int32) <<< (t1.2 &&& 31))))) (fun j6 => if a1 = 9 then (xr_ld σ 50 220 (30 + t1.2) (fun v11 => if v11 = (-1) then (j6 0) else (j6 1))) else (if a1 = 10 then (xr_ld σ 50 220 (37 + t1.2) (fun v12 => if v12 = (-1) then (j6 0) else (j6 1))) else (xr_ld σ 50 220 (44 + t1.2) (fun v13 => if v13 = 1 then (j6 1) else (j6 0))))))
noncomputable def xf_X11_loavesBy (σ : xr_S) (a1 : Int32) : Option Int32 := xr_lw (xf_X11_loavesBy_L4 σ a1 (fun (e3 : Int32) => some e3)) (0, 0)
set_option maxRecDepth 100000 in
set_option maxHeartbeats 4000000 in
theorem xc_X11_loavesBy (l : Launch) (D : va_G) (ad : Nat → Nat) (ca : Nat → ClassId) (σ : xr_S) (a1 : Int32) (q : Int32) (hf : xf_X11_loavesBy σ a1 = some q) : xr_M l D ad ca yX11_loavesBy cX11_loavesBy 5 (some .int) 0 0 [.ref (ad 49), .int a1] σ (some (.int q)) σ := by
  refine xr_openI [some (.ref (ad 49)), some (.int a1), none, none, none] xm_X11_loavesBy (Nat.le_of_ble_eq_true rfl) rfl (fun J B RR => ?_)
  unfold xf_X11_loavesBy at hf
  refine xr_iconst B (v := 0) dX11_loavesBy_0 (by decide) ?_
  refine xr_istore_n B (lv2 := [some (.ref (ad 49)), some (.int a1), some (.int 0), none, none]) dX11_loavesBy_1 rfl (by decide) rfl ?_
  refine xr_iconst B (v := 0) dX11_loavesBy_2 (by decide) ?_
  refine xr_istore_n B (lv2 := [some (.ref (ad 49)), some (.int a1), some (.int 0), some (.int 0), none]) dX11_loavesBy_3 rfl (by decide) rfl ?_
  refine xq_loop (fun (t1 : (Int32 × Int32)) => J 4 [some (.ref (ad 49)), some (.int a1), some (.int t1.1), some (.int t1.2), none] [] σ) (fun (e3 : Int32) => J 107 [none, none, some (.int e3), none, none] [] σ) hf (fun e3 hf => ?_) (fun K4 hK4 t1 rec2 hrec2 hf => ?_)
  · refine xr_iload_n B dX11_loavesBy_107 rfl rfl ?_
    obtain rfl := Option.some.inj hf
    exact RR _ _ _ dX11_loavesBy_108 rfl
  · have hrec2 : ∀ (b1 : Int32) (b2 : Int32), rec2 (b1, b2) = some q → J 4 [some (.ref (ad 49)), some (.int a1), some (.int b1), some (.int b2), none] [] σ := fun b1 b2 h => hrec2 (b1, b2) h
    unfold xf_X11_loavesBy_L4 at hf
    refine xr_iload_n B dX11_loavesBy_4 rfl rfl ?_
    refine xr_aload_n B dX11_loavesBy_5 rfl rfl ?_
    refine xr_getI B xg_X11_83 xh_49 rfl dX11_loavesBy_6 ?_
    refine xr_ic_ge B (tgt := 107) dX11_loavesBy_9 (by decide) hf (fun _ hf => ?_) (fun _ hf => ?_)
    · refine xr_forget B (lv2 := [none, none, some (.int t1.1), none, none]) ⟨rfl, trivial⟩ ?_
      exact hK4 t1.1 hf
    · refine xr_iload_n B dX11_loavesBy_12 rfl rfl ?_
      refine xr_bipush B (v := 9) dX11_loavesBy_13 (by decide) ?_
      refine xr_meet (fun (w5 : Int32) => J 84 [some (.ref (ad 49)), some (.int a1), some (.int t1.1), some (.int t1.2), none] [.int w5] σ) hf (fun w5 hf => ?_) (fun j6 hj6 hf => ?_)
      · refine xr_istore B (lv2 := [some (.ref (ad 49)), some (.int a1), some (.int t1.1), some (.int t1.2), some (.int w5)]) dX11_loavesBy_84 (by decide) rfl ?_
        refine xr_iload_n B dX11_loavesBy_86 rfl rfl ?_
        refine xr_iload B dX11_loavesBy_87 rfl ?_
        refine xr_meet (fun (w7 : Int32) => J 99 [some (.ref (ad 49)), some (.int a1), none, some (.int t1.2), none] [.int w7, .int t1.1] σ) hf (fun w7 hf => ?_) (fun j8 hj8 hf => ?_)
        · refine xr_ior B dX11_loavesBy_99 ?_
          refine xr_top _ hf (fun v9 hf => ?_)
          refine xr_istore_n B (lv2 := [some (.ref (ad 49)), some (.int a1), some (.int v9), some (.int t1.2), none]) dX11_loavesBy_100 rfl (by decide) rfl ?_
          refine xr_iinc B (v := (t1.2 + 1)) (lv2 := [some (.ref (ad 49)), some (.int a1), some (.int v9), some (.int (t1.2 + 1)), none]) dX11_loavesBy_101 rfl (congrArg (t1.2 + ·) (by decide : Int32.ofInt (1) = 1)) (by decide) rfl ?_
          refine xr_goto B (tgt := 4) dX11_loavesBy_104 (by decide) ?_
          exact hrec2 v9 (t1.2 + 1) hf
        · refine xr_if_eq B (tgt := 98) dX11_loavesBy_89 (by decide) hf (fun _ hf => ?_) (fun _ hf => ?_)
          · refine xr_iconst B (v := 0) dX11_loavesBy_98 (by decide) ?_
            refine xr_forget B (lv2 := [some (.ref (ad 49)), some (.int a1), none, some (.int t1.2), none]) ⟨rfl, ⟨rfl, ⟨rfl, trivial⟩⟩⟩ ?_
            exact hj8 0 hf
          · refine xr_iconst B (v := 1) dX11_loavesBy_92 (by decide) ?_
            refine xr_iload_n B dX11_loavesBy_93 rfl rfl ?_
            refine xr_ishl B dX11_loavesBy_94 ?_
            refine xr_goto B (tgt := 99) dX11_loavesBy_95 (by decide) ?_
            refine xr_forget B (lv2 := [some (.ref (ad 49)), some (.int a1), none, some (.int t1.2), none]) ⟨rfl, ⟨rfl, ⟨rfl, trivial⟩⟩⟩ ?_
            exact hj8 ((1 : Int32) <<< (t1.2 &&& 31)) hf
      · refine xr_ic_ne B (tgt := 39) dX11_loavesBy_15 (by decide) hf (fun _ hf => ?_) (fun _ hf => ?_)
        · refine xr_aload_n B dX11_loavesBy_18 rfl rfl ?_
          refine xr_getR B xg_X11_7 xh_49 rfl dX11_loavesBy_19 ?_
          refine xr_bipush B (v := 30) dX11_loavesBy_22 (by decide) ?_
          refine xr_iload_n B dX11_loavesBy_24 rfl rfl ?_
          refine xr_iadd B dX11_loavesBy_25 ?_
          refine xq_iald B xh_50 dX11_loavesBy_26 hf (fun v11 hf => ?_)
          refine xr_iconst B (v := (-1)) dX11_loavesBy_27 (by decide) ?_
          refine xr_ic_eq B (tgt := 35) dX11_loavesBy_28 (by decide) hf (fun _ hf => ?_) (fun _ hf => ?_)
          · refine xr_iconst B (v := 0) dX11_loavesBy_35 (by decide) ?_
            refine xr_goto B (tgt := 84) dX11_loavesBy_36 (by decide) ?_
            exact hj6 0 hf
          · refine xr_iconst B (v := 1) dX11_loavesBy_31 (by decide) ?_
            refine xr_goto B (tgt := 84) dX11_loavesBy_32 (by decide) ?_
            exact hj6 1 hf
        · refine xr_iload_n B dX11_loavesBy_39 rfl rfl ?_
          refine xr_bipush B (v := 10) dX11_loavesBy_40 (by decide) ?_
          refine xr_ic_ne B (tgt := 66) dX11_loavesBy_42 (by decide) hf (fun _ hf => ?_) (fun _ hf => ?_)
          · refine xr_aload_n B dX11_loavesBy_45 rfl rfl ?_
            refine xr_getR B xg_X11_7 xh_49 rfl dX11_loavesBy_46 ?_
            refine xr_bipush B (v := 37) dX11_loavesBy_49 (by decide) ?_
            refine xr_iload_n B dX11_loavesBy_51 rfl rfl ?_
            refine xr_iadd B dX11_loavesBy_52 ?_
            refine xq_iald B xh_50 dX11_loavesBy_53 hf (fun v12 hf => ?_)
            refine xr_iconst B (v := (-1)) dX11_loavesBy_54 (by decide) ?_
            refine xr_ic_eq B (tgt := 62) dX11_loavesBy_55 (by decide) hf (fun _ hf => ?_) (fun _ hf => ?_)
            · refine xr_iconst B (v := 0) dX11_loavesBy_62 (by decide) ?_
              refine xr_goto B (tgt := 84) dX11_loavesBy_63 (by decide) ?_
              exact hj6 0 hf
            · refine xr_iconst B (v := 1) dX11_loavesBy_58 (by decide) ?_
              refine xr_goto B (tgt := 84) dX11_loavesBy_59 (by decide) ?_
              exact hj6 1 hf
          · refine xr_aload_n B dX11_loavesBy_66 rfl rfl ?_
            refine xr_getR B xg_X11_7 xh_49 rfl dX11_loavesBy_67 ?_
            refine xr_bipush B (v := 44) dX11_loavesBy_70 (by decide) ?_
            refine xr_iload_n B dX11_loavesBy_72 rfl rfl ?_
            refine xr_iadd B dX11_loavesBy_73 ?_
            refine xq_iald B xh_50 dX11_loavesBy_74 hf (fun v13 hf => ?_)
            refine xr_iconst B (v := 1) dX11_loavesBy_75 (by decide) ?_
            refine xr_ic_ne B (tgt := 83) dX11_loavesBy_76 (by decide) hf (fun _ hf => ?_) (fun _ hf => ?_)
            · refine xr_iconst B (v := 1) dX11_loavesBy_79 (by decide) ?_
              refine xr_goto B (tgt := 84) dX11_loavesBy_80 (by decide) ?_
              exact hj6 1 hf
            · refine xr_iconst B (v := 0) dX11_loavesBy_83 (by decide) ?_
              exact hj6 0 hf
