noncomputable def xf_X11_told (σ : xr_S) (a1 : Int32) : Option Int32 := if a1 = 0 then (some (σ.1 49 2)) else if a1 = 1 then (some (σ.1 49 3)) else if a1 = 2 then (some (σ.1 49 4)) else if a1 = 3 then (some (σ.1 49 5)) else if a1 = 4 then (some (σ.1 49 6)) else if a1 = 5 then (some (σ.1 49 11)) else if a1 = 6 then (xr_ld σ 50 220 52 (fun v1 => some v1)) else if a1 = 7 then (xr_ld σ 50 220 53 (fun v2 => some v2)) else if a1 = 8 then (xr_ld σ 50 220 51 (fun v3 => some v3)) else if a1 = 9 then ((xf_X11_in σ (Int32.toInt64 a1) 9 11).bind (fun v4 => if v4 = 0 then (some (-1000000002)) else ((xf_X11_loavesBy σ a1).bind (fun v5 => some v5)))) else if a1 = 10 then ((xf_X11_in σ (Int32.toInt64 a1) 9 11).bind (fun v6 => if v6 = 0 then (some (-1000000002)) else ((xf_X11_loavesBy σ a1).bind (fun v7 => some v7)))) else if a1 = 11 then ((xf_X11_in σ (Int32.toInt64 a1) 9 11).bind (fun v8 => if v8 = 0 then (some (-1000000002)) else ((xf_X11_loavesBy σ a1).bind (fun v9 => some v9)))) else if a1 = 12 then (some (σ.1 49 28)) else if a1 = 13 then (some (σ.1 49 33)) else ((xf_X11_in σ (Int32.toInt64 a1) 9 11).bind (fun v10 => if v10 = 0 then (some (-1000000002)) else ((xf_X11_loavesBy σ a1).bind (fun v11 => some v11))))
set_option maxRecDepth 100000 in
set_option maxHeartbeats 4000000 in
theorem xc_X11_told (l : Launch) (D : va_G) (ad : Nat → Nat) (ca : Nat → ClassId) (σ : xr_S) (a1 : Int32) (q : Int32) (hf : xf_X11_told σ a1 = some q) : xr_M l D ad ca yX11_told cX11_told 2 (some .int) 1 25 [.ref (ad 49), .int a1] σ (some (.int q)) σ := by
  refine xr_openI [some (.ref (ad 49)), some (.int a1)] xm_X11_told (Nat.le_of_ble_eq_true rfl) rfl (fun J B RR => ?_)
  unfold xf_X11_told at hf
  refine xr_iload_n B dX11_told_0 rfl rfl ?_
  by_cases hc0 : a1 = 0
  · rw [if_pos hc0] at hf
    refine xr_tabI B (off := 71) (tgt := 72) dX11_told_1 (by rw [hc0]; decide) (by rw [hc0]; decide) (by rw [hc0]; decide) (by decide) ?_
    refine xr_aload_n B dX11_told_72 rfl rfl ?_
    refine xr_getI B xg_X11_80 xh_49 rfl dX11_told_73 ?_
    obtain rfl := Option.some.inj hf
    exact RR _ _ _ dX11_told_76 rfl
  rw [if_neg hc0] at hf
  by_cases hc1 : a1 = 1
  · rw [if_pos hc1] at hf
    refine xr_tabI B (off := 76) (tgt := 77) dX11_told_1 (by rw [hc1]; decide) (by rw [hc1]; decide) (by rw [hc1]; decide) (by decide) ?_
    refine xr_aload_n B dX11_told_77 rfl rfl ?_
    refine xr_getI B xg_X11_163 xh_49 rfl dX11_told_78 ?_
    obtain rfl := Option.some.inj hf
    exact RR _ _ _ dX11_told_81 rfl
  rw [if_neg hc1] at hf
  by_cases hc2 : a1 = 2
  · rw [if_pos hc2] at hf
    refine xr_tabI B (off := 81) (tgt := 82) dX11_told_1 (by rw [hc2]; decide) (by rw [hc2]; decide) (by rw [hc2]; decide) (by decide) ?_
    refine xr_aload_n B dX11_told_82 rfl rfl ?_
    refine xr_getI B xg_X11_73 xh_49 rfl dX11_told_83 ?_
    obtain rfl := Option.some.inj hf
    exact RR _ _ _ dX11_told_86 rfl
  rw [if_neg hc2] at hf
  by_cases hc3 : a1 = 3
  · rw [if_pos hc3] at hf
    refine xr_tabI B (off := 86) (tgt := 87) dX11_told_1 (by rw [hc3]; decide) (by rw [hc3]; decide) (by rw [hc3]; decide) (by decide) ?_
    refine xr_aload_n B dX11_told_87 rfl rfl ?_
    refine xr_getI B xg_X11_83 xh_49 rfl dX11_told_88 ?_
    obtain rfl := Option.some.inj hf
    exact RR _ _ _ dX11_told_91 rfl
  rw [if_neg hc3] at hf
  by_cases hc4 : a1 = 4
  · rw [if_pos hc4] at hf
    refine xr_tabI B (off := 91) (tgt := 92) dX11_told_1 (by rw [hc4]; decide) (by rw [hc4]; decide) (by rw [hc4]; decide) (by decide) ?_
    refine xr_aload_n B dX11_told_92 rfl rfl ?_
    refine xr_getI B xg_X11_166 xh_49 rfl dX11_told_93 ?_
    obtain rfl := Option.some.inj hf
    exact RR _ _ _ dX11_told_96 rfl
  rw [if_neg hc4] at hf
  by_cases hc5 : a1 = 5
  · rw [if_pos hc5] at hf
    refine xr_tabI B (off := 96) (tgt := 97) dX11_told_1 (by rw [hc5]; decide) (by rw [hc5]; decide) (by rw [hc5]; decide) (by decide) ?_
    refine xr_aload_n B dX11_told_97 rfl rfl ?_
    refine xr_getI B xg_X11_89 xh_49 rfl dX11_told_98 ?_
    obtain rfl := Option.some.inj hf
    exact RR _ _ _ dX11_told_101 rfl
  rw [if_neg hc5] at hf
  by_cases hc6 : a1 = 6
  · rw [if_pos hc6] at hf
    refine xr_tabI B (off := 101) (tgt := 102) dX11_told_1 (by rw [hc6]; decide) (by rw [hc6]; decide) (by rw [hc6]; decide) (by decide) ?_
    refine xr_aload_n B dX11_told_102 rfl rfl ?_
    refine xr_getR B xg_X11_7 xh_49 rfl dX11_told_103 ?_
    refine xr_bipush B (v := 52) dX11_told_106 (by decide) ?_
    refine xq_iald B xh_50 dX11_told_108 hf (fun v1 hf => ?_)
    obtain rfl := Option.some.inj hf
    exact RR _ _ _ dX11_told_109 rfl
  rw [if_neg hc6] at hf
  by_cases hc7 : a1 = 7
  · rw [if_pos hc7] at hf
    refine xr_tabI B (off := 109) (tgt := 110) dX11_told_1 (by rw [hc7]; decide) (by rw [hc7]; decide) (by rw [hc7]; decide) (by decide) ?_
    refine xr_aload_n B dX11_told_110 rfl rfl ?_
    refine xr_getR B xg_X11_7 xh_49 rfl dX11_told_111 ?_
    refine xr_bipush B (v := 53) dX11_told_114 (by decide) ?_
    refine xq_iald B xh_50 dX11_told_116 hf (fun v2 hf => ?_)
    obtain rfl := Option.some.inj hf
    exact RR _ _ _ dX11_told_117 rfl
  rw [if_neg hc7] at hf
  by_cases hc8 : a1 = 8
  · rw [if_pos hc8] at hf
    refine xr_tabI B (off := 117) (tgt := 118) dX11_told_1 (by rw [hc8]; decide) (by rw [hc8]; decide) (by rw [hc8]; decide) (by decide) ?_
    refine xr_aload_n B dX11_told_118 rfl rfl ?_
    refine xr_getR B xg_X11_7 xh_49 rfl dX11_told_119 ?_
    refine xr_bipush B (v := 51) dX11_told_122 (by decide) ?_
    refine xq_iald B xh_50 dX11_told_124 hf (fun v3 hf => ?_)
    obtain rfl := Option.some.inj hf
    exact RR _ _ _ dX11_told_125 rfl
  rw [if_neg hc8] at hf
  by_cases hc9 : a1 = 9
  · rw [if_pos hc9] at hf
    refine xr_tabI B (off := 135) (tgt := 136) dX11_told_1 (by rw [hc9]; decide) (by rw [hc9]; decide) (by rw [hc9]; decide) (by decide) ?_
    refine xr_iload_n B dX11_told_136 rfl rfl ?_
    refine xr_i2l B dX11_told_137 ?_
    refine xr_ldc2 B xl_X11_175 dX11_told_138 ?_
    refine xr_ldc2 B xl_X11_177 dX11_told_141 ?_
    refine xr_cSi B (rest := []) [.long (Int32.toInt64 a1), .long 9, .long 11] xm_X11_in xs_X11_76 (fun q hq => xc_X11_in l D ad ca σ (Int32.toInt64 a1) 9 11 q hq) rfl (by decide) rfl (Nat.le_of_ble_eq_true rfl) dX11_told_144 hf (fun v4 hf => ?_)
    refine xr_if_eq B (tgt := 158) dX11_told_147 (by decide) hf (fun _ hf => ?_) (fun _ hf => ?_)
    · refine xr_ldc B xk_X11_88 dX11_told_158 ?_
      obtain rfl := Option.some.inj hf
      exact RR _ _ _ dX11_told_160 rfl
    · refine xr_aload_n B dX11_told_150 rfl rfl ?_
      refine xr_iload_n B dX11_told_151 rfl rfl ?_
      refine xr_cVi B (rest := []) [.int a1] xm_X11_loavesBy xv_X11_179 (fun q hq => xc_X11_loavesBy l D ad ca σ a1 q hq) xh_49 rfl rfl (by decide) rfl (Nat.le_of_ble_eq_true rfl) dX11_told_152 hf (fun v5 hf => ?_)
      refine xr_goto B (tgt := 160) dX11_told_155 (by decide) ?_
      obtain rfl := Option.some.inj hf
      exact RR _ _ _ dX11_told_160 rfl
  rw [if_neg hc9] at hf
  by_cases hc10 : a1 = 10
  · rw [if_pos hc10] at hf
    refine xr_tabI B (off := 135) (tgt := 136) dX11_told_1 (by rw [hc10]; decide) (by rw [hc10]; decide) (by rw [hc10]; decide) (by decide) ?_
    refine xr_iload_n B dX11_told_136 rfl rfl ?_
    refine xr_i2l B dX11_told_137 ?_
    refine xr_ldc2 B xl_X11_175 dX11_told_138 ?_
    refine xr_ldc2 B xl_X11_177 dX11_told_141 ?_
    refine xr_cSi B (rest := []) [.long (Int32.toInt64 a1), .long 9, .long 11] xm_X11_in xs_X11_76 (fun q hq => xc_X11_in l D ad ca σ (Int32.toInt64 a1) 9 11 q hq) rfl (by decide) rfl (Nat.le_of_ble_eq_true rfl) dX11_told_144 hf (fun v6 hf => ?_)
    refine xr_if_eq B (tgt := 158) dX11_told_147 (by decide) hf (fun _ hf => ?_) (fun _ hf => ?_)
    · refine xr_ldc B xk_X11_88 dX11_told_158 ?_
      obtain rfl := Option.some.inj hf
      exact RR _ _ _ dX11_told_160 rfl
    · refine xr_aload_n B dX11_told_150 rfl rfl ?_
      refine xr_iload_n B dX11_told_151 rfl rfl ?_
      refine xr_cVi B (rest := []) [.int a1] xm_X11_loavesBy xv_X11_179 (fun q hq => xc_X11_loavesBy l D ad ca σ a1 q hq) xh_49 rfl rfl (by decide) rfl (Nat.le_of_ble_eq_true rfl) dX11_told_152 hf (fun v7 hf => ?_)
      refine xr_goto B (tgt := 160) dX11_told_155 (by decide) ?_
      obtain rfl := Option.some.inj hf
      exact RR _ _ _ dX11_told_160 rfl
  rw [if_neg hc10] at hf
  by_cases hc11 : a1 = 11
  · rw [if_pos hc11] at hf
    refine xr_tabI B (off := 135) (tgt := 136) dX11_told_1 (by rw [hc11]; decide) (by rw [hc11]; decide) (by rw [hc11]; decide) (by decide) ?_
    refine xr_iload_n B dX11_told_136 rfl rfl ?_
    refine xr_i2l B dX11_told_137 ?_
    refine xr_ldc2 B xl_X11_175 dX11_told_138 ?_
    refine xr_ldc2 B xl_X11_177 dX11_told_141 ?_
    refine xr_cSi B (rest := []) [.long (Int32.toInt64 a1), .long 9, .long 11] xm_X11_in xs_X11_76 (fun q hq => xc_X11_in l D ad ca σ (Int32.toInt64 a1) 9 11 q hq) rfl (by decide) rfl (Nat.le_of_ble_eq_true rfl) dX11_told_144 hf (fun v8 hf => ?_)
    refine xr_if_eq B (tgt := 158) dX11_told_147 (by decide) hf (fun _ hf => ?_) (fun _ hf => ?_)
    · refine xr_ldc B xk_X11_88 dX11_told_158 ?_
      obtain rfl := Option.some.inj hf
      exact RR _ _ _ dX11_told_160 rfl
    · refine xr_aload_n B dX11_told_150 rfl rfl ?_
      refine xr_iload_n B dX11_told_151 rfl rfl ?_
      refine xr_cVi B (rest := []) [.int a1] xm_X11_loavesBy xv_X11_179 (fun q hq => xc_X11_loavesBy l D ad ca σ a1 q hq) xh_49 rfl rfl (by decide) rfl (Nat.le_of_ble_eq_true rfl) dX11_told_152 hf (fun v9 hf => ?_)
      refine xr_goto B (tgt := 160) dX11_told_155 (by decide) ?_
      obtain rfl := Option.some.inj hf
      exact RR _ _ _ dX11_told_160 rfl
  rw [if_neg hc11] at hf
  by_cases hc12 : a1 = 12
  · rw [if_pos hc12] at hf
    refine xr_tabI B (off := 125) (tgt := 126) dX11_told_1 (by rw [hc12]; decide) (by rw [hc12]; decide) (by rw [hc12]; decide) (by decide) ?_
    refine xr_aload_n B dX11_told_126 rfl rfl ?_
    refine xr_getI B xg_X11_169 xh_49 rfl dX11_told_127 ?_
    obtain rfl := Option.some.inj hf
    exact RR _ _ _ dX11_told_130 rfl
  rw [if_neg hc12] at hf
  by_cases hc13 : a1 = 13
  · rw [if_pos hc13] at hf
    refine xr_tabI B (off := 130) (tgt := 131) dX11_told_1 (by rw [hc13]; decide) (by rw [hc13]; decide) (by rw [hc13]; decide) (by decide) ?_
    refine xr_aload_n B dX11_told_131 rfl rfl ?_
    refine xr_getI B xg_X11_172 xh_49 rfl dX11_told_132 ?_
    obtain rfl := Option.some.inj hf
    exact RR _ _ _ dX11_told_135 rfl
  rw [if_neg hc13] at hf
  refine xr_tabO B (tgt := 136) dX11_told_1 (xr_tout 13 (by decide) (fun j hj => ?_)) (by decide) ?_
  · match j, hj with
    | 0, _ => exact hc0
    | 1, _ => exact hc1
    | 2, _ => exact hc2
    | 3, _ => exact hc3
    | 4, _ => exact hc4
    | 5, _ => exact hc5
    | 6, _ => exact hc6
    | 7, _ => exact hc7
    | 8, _ => exact hc8
    | 9, _ => exact hc9
    | 10, _ => exact hc10
    | 11, _ => exact hc11
    | 12, _ => exact hc12
    | 13, _ => exact hc13
    | j + 14, hj => exact absurd hj (by omega)
  · refine xr_iload_n B dX11_told_136 rfl rfl ?_
    refine xr_i2l B dX11_told_137 ?_
    refine xr_ldc2 B xl_X11_175 dX11_told_138 ?_
    refine xr_ldc2 B xl_X11_177 dX11_told_141 ?_
    refine xr_cSi B (rest := []) [.long (Int32.toInt64 a1), .long 9, .long 11] xm_X11_in xs_X11_76 (fun q hq => xc_X11_in l D ad ca σ (Int32.toInt64 a1) 9 11 q hq) rfl (by decide) rfl (Nat.le_of_ble_eq_true rfl) dX11_told_144 hf (fun v10 hf => ?_)
    refine xr_if_eq B (tgt := 158) dX11_told_147 (by decide) hf (fun _ hf => ?_) (fun _ hf => ?_)
    · refine xr_ldc B xk_X11_88 dX11_told_158 ?_
      obtain rfl := Option.some.inj hf
      exact RR _ _ _ dX11_told_160 rfl
    · refine xr_aload_n B dX11_told_150 rfl rfl ?_
      refine xr_iload_n B dX11_told_151 rfl rfl ?_
      refine xr_cVi B (rest := []) [.int a1] xm_X11_loavesBy xv_X11_179 (fun q hq => xc_X11_loavesBy l D ad ca σ a1 q hq) xh_49 rfl rfl (by decide) rfl (Nat.le_of_ble_eq_true rfl) dX11_told_152 hf (fun v11 hf => ?_)
      refine xr_goto B (tgt := 160) dX11_told_155 (by decide) ?_
      obtain rfl := Option.some.inj hf
      exact RR _ _ _ dX11_told_160 rfl

noncomputable def xf_X11_weightOf (σ : xr_S) (a1 : Int32) (a2 : Int32) (a3 : Int32) : Option Int32 := xr_ld σ 50 220 (((a1 + 0) + (5 * a2)) + a3) (fun v1 => some v1)
set_option maxRecDepth 100000 in
set_option maxHeartbeats 4000000 in
theorem xc_X11_weightOf (l : Launch) (D : va_G) (ad : Nat → Nat) (ca : Nat → ClassId) (σ : xr_S) (a1 : Int32) (a2 : Int32) (a3 : Int32) (q : Int32) (hf : xf_X11_weightOf σ a1 a2 a3 = some q) : xr_M l D ad ca yX11_weightOf cX11_weightOf 4 (some .int) 0 0 [.ref (ad 49), .int a1, .int a2, .int a3] σ (some (.int q)) σ := by
  refine xr_openI [some (.ref (ad 49)), some (.int a1), some (.int a2), some (.int a3)] xm_X11_weightOf (Nat.le_of_ble_eq_true rfl) rfl (fun J B RR => ?_)
  unfold xf_X11_weightOf at hf
  refine xr_aload_n B dX11_weightOf_0 rfl rfl ?_
  refine xr_getR B xg_X11_7 xh_49 rfl dX11_weightOf_1 ?_
  refine xr_iload_n B dX11_weightOf_4 rfl rfl ?_
  refine xr_iconst B (v := 0) dX11_weightOf_5 (by decide) ?_
  refine xr_iadd B dX11_weightOf_6 ?_
  refine xr_iconst B (v := 5) dX11_weightOf_7 (by decide) ?_
  refine xr_iload_n B dX11_weightOf_8 rfl rfl ?_
  refine xr_imul B dX11_weightOf_9 ?_
  refine xr_iadd B dX11_weightOf_10 ?_
  refine xr_iload_n B dX11_weightOf_11 rfl rfl ?_
  refine xr_iadd B dX11_weightOf_12 ?_
  refine xq_iald B xh_50 dX11_weightOf_13 hf (fun v1 hf => ?_)
  obtain rfl := Option.some.inj hf
  exact RR _ _ _ dX11_weightOf_14 rfl

noncomputable def xf_X11_allOf_L5 (σ : xr_S) (a1 : Int32) (a2 : Int32) (K4 : Int32 → Option Int32) (t1 : (Int32 × Int32)) (rec2 : (Int32 × Int32) → Option Int32) : Option Int32 := if (σ.1 49 2) ≤ t1.2 then (K4 t1.1) else ((xf_X11_weightOf σ a1 a2 t1.2).bind (fun v5 => xr_v ((t1.1 + v5)) (fun v6 => rec2 (v6, (t1.2 + 1)))))
noncomputable def xf_X11_allOf (σ : xr_S) (a1 : Int32) (a2 : Int32) : Option Int32 := xr_lw (xf_X11_allOf_L5 σ a1 a2 (fun (e3 : Int32) => some e3)) (0, 0)
set_option maxRecDepth 100000 in
set_option maxHeartbeats 4000000 in
theorem xc_X11_allOf (l : Launch) (D : va_G) (ad : Nat → Nat) (ca : Nat → ClassId) (σ : xr_S) (a1 : Int32) (a2 : Int32) (q : Int32) (hf : xf_X11_allOf σ a1 a2 = some q) : xr_M l D ad ca yX11_allOf cX11_allOf 5 (some .int) 1 23 [.ref (ad 49), .int a1, .int a2] σ (some (.int q)) σ := by
  refine xr_openI [some (.ref (ad 49)), some (.int a1), some (.int a2), none, none] xm_X11_allOf (Nat.le_of_ble_eq_true rfl) rfl (fun J B RR => ?_)
  unfold xf_X11_allOf at hf
  refine xr_iconst B (v := 0) dX11_allOf_0 (by decide) ?_
  refine xr_istore_n B (lv2 := [some (.ref (ad 49)), some (.int a1), some (.int a2), some (.int 0), none]) dX11_allOf_1 rfl (by decide) rfl ?_
  refine xr_iconst B (v := 0) dX11_allOf_2 (by decide) ?_
  refine xr_istore B (lv2 := [some (.ref (ad 49)), some (.int a1), some (.int a2), some (.int 0), some (.int 0)]) dX11_allOf_3 (by decide) rfl ?_
  refine xq_loop (fun (t1 : (Int32 × Int32)) => J 5 [some (.ref (ad 49)), some (.int a1), some (.int a2), some (.int t1.1), some (.int t1.2)] [] σ) (fun (e3 : Int32) => J 31 [none, none, none, some (.int e3), none] [] σ) hf (fun e3 hf => ?_) (fun K4 hK4 t1 rec2 hrec2 hf => ?_)
  · refine xr_iload_n B dX11_allOf_31 rfl rfl ?_
    obtain rfl := Option.some.inj hf
    exact RR _ _ _ dX11_allOf_32 rfl
  · have hrec2 : ∀ (b1 : Int32) (b2 : Int32), rec2 (b1, b2) = some q → J 5 [some (.ref (ad 49)), some (.int a1), some (.int a2), some (.int b1), some (.int b2)] [] σ := fun b1 b2 h => hrec2 (b1, b2) h
    unfold xf_X11_allOf_L5 at hf
    refine xr_iload B dX11_allOf_5 rfl ?_
    refine xr_aload_n B dX11_allOf_7 rfl rfl ?_
    refine xr_getI B xg_X11_80 xh_49 rfl dX11_allOf_8 ?_
    refine xr_ic_ge B (tgt := 31) dX11_allOf_11 (by decide) hf (fun _ hf => ?_) (fun _ hf => ?_)
    · refine xr_forget B (lv2 := [none, none, none, some (.int t1.1), none]) ⟨rfl, trivial⟩ ?_
      exact hK4 t1.1 hf
    · refine xr_iload_n B dX11_allOf_14 rfl rfl ?_
      refine xr_aload_n B dX11_allOf_15 rfl rfl ?_
      refine xr_iload_n B dX11_allOf_16 rfl rfl ?_
      refine xr_iload_n B dX11_allOf_17 rfl rfl ?_
      refine xr_iload B dX11_allOf_18 rfl ?_
      refine xr_cVi B (rest := [.int t1.1]) [.int a1, .int a2, .int t1.2] xm_X11_weightOf xv_X11_182 (fun q hq => xc_X11_weightOf l D ad ca σ a1 a2 t1.2 q hq) xh_49 rfl rfl (by decide) rfl (Nat.le_of_ble_eq_true rfl) dX11_allOf_20 hf (fun v5 hf => ?_)
      refine xr_iadd B dX11_allOf_23 ?_
      refine xr_top _ hf (fun v6 hf => ?_)
      refine xr_istore_n B (lv2 := [some (.ref (ad 49)), some (.int a1), some (.int a2), some (.int v6), some (.int t1.2)]) dX11_allOf_24 rfl (by decide) rfl ?_
      refine xr_iinc B (v := (t1.2 + 1)) (lv2 := [some (.ref (ad 49)), some (.int a1), some (.int a2), some (.int v6), some (.int (t1.2 + 1))]) dX11_allOf_25 rfl (congrArg (t1.2 + ·) (by decide : Int32.ofInt (1) = 1)) (by decide) rfl ?_
      refine xr_goto B (tgt := 5) dX11_allOf_28 (by decide) ?_
      exact hrec2 v6 (t1.2 + 1) hf

noncomputable def xf_X11_likeliestOf_L5 (σ : xr_S) (a1 : Int32) (a2 : Int32) (K4 : Int32 → Option Int32) (t1 : (Int32 × Int32)) (rec2 : (Int32 × Int32) → Option Int32) : Option Int32 := if (σ.1 49 2) ≤ t1.2 then (K4 t1.1) else ((xf_X11_weightOf σ a1 a2 t1.2).bind (fun v5 => (xf_X11_weightOf σ a1 a2 t1.1).bind (fun v6 => xr_jn (fun (w7 : Int32) => rec2 (w7, (t1.2 + 1))) (fun j8 => if v5 ≤ v6 then (j8 t1.1) else (j8 t1.2)))))
noncomputable def xf_X11_likeliestOf (σ : xr_S) (a1 : Int32) (a2 : Int32) : Option Int32 := xr_lw (xf_X11_likeliestOf_L5 σ a1 a2 (fun (e3 : Int32) => some e3)) (0, 1)
set_option maxRecDepth 100000 in
set_option maxHeartbeats 4000000 in
theorem xc_X11_likeliestOf (l : Launch) (D : va_G) (ad : Nat → Nat) (ca : Nat → ClassId) (σ : xr_S) (a1 : Int32) (a2 : Int32) (q : Int32) (hf : xf_X11_likeliestOf σ a1 a2 = some q) : xr_M l D ad ca yX11_likeliestOf cX11_likeliestOf 5 (some .int) 1 23 [.ref (ad 49), .int a1, .int a2] σ (some (.int q)) σ := by
  refine xr_openI [some (.ref (ad 49)), some (.int a1), some (.int a2), none, none] xm_X11_likeliestOf (Nat.le_of_ble_eq_true rfl) rfl (fun J B RR => ?_)
  unfold xf_X11_likeliestOf at hf
  refine xr_iconst B (v := 0) dX11_likeliestOf_0 (by decide) ?_
  refine xr_istore_n B (lv2 := [some (.ref (ad 49)), some (.int a1), some (.int a2), some (.int 0), none]) dX11_likeliestOf_1 rfl (by decide) rfl ?_
  refine xr_iconst B (v := 1) dX11_likeliestOf_2 (by decide) ?_
  refine xr_istore B (lv2 := [some (.ref (ad 49)), some (.int a1), some (.int a2), some (.int 0), some (.int 1)]) dX11_likeliestOf_3 (by decide) rfl ?_
  refine xq_loop (fun (t1 : (Int32 × Int32)) => J 5 [some (.ref (ad 49)), some (.int a1), some (.int a2), some (.int t1.1), some (.int t1.2)] [] σ) (fun (e3 : Int32) => J 45 [none, none, none, some (.int e3), none] [] σ) hf (fun e3 hf => ?_) (fun K4 hK4 t1 rec2 hrec2 hf => ?_)
  · refine xr_iload_n B dX11_likeliestOf_45 rfl rfl ?_
    obtain rfl := Option.some.inj hf
    exact RR _ _ _ dX11_likeliestOf_46 rfl
  · have hrec2 : ∀ (b1 : Int32) (b2 : Int32), rec2 (b1, b2) = some q → J 5 [some (.ref (ad 49)), some (.int a1), some (.int a2), some (.int b1), some (.int b2)] [] σ := fun b1 b2 h => hrec2 (b1, b2) h
    unfold xf_X11_likeliestOf_L5 at hf
    refine xr_iload B dX11_likeliestOf_5 rfl ?_
    refine xr_aload_n B dX11_likeliestOf_7 rfl rfl ?_
    refine xr_getI B xg_X11_80 xh_49 rfl dX11_likeliestOf_8 ?_
    refine xr_ic_ge B (tgt := 45) dX11_likeliestOf_11 (by decide) hf (fun _ hf => ?_) (fun _ hf => ?_)
    · refine xr_forget B (lv2 := [none, none, none, some (.int t1.1), none]) ⟨rfl, trivial⟩ ?_
      exact hK4 t1.1 hf
    · refine xr_aload_n B dX11_likeliestOf_14 rfl rfl ?_
      refine xr_iload_n B dX11_likeliestOf_15 rfl rfl ?_
      refine xr_iload_n B dX11_likeliestOf_16 rfl rfl ?_
      refine xr_iload B dX11_likeliestOf_17 rfl ?_
      refine xr_cVi B (rest := []) [.int a1, .int a2, .int t1.2] xm_X11_weightOf xv_X11_182 (fun q hq => xc_X11_weightOf l D ad ca σ a1 a2 t1.2 q hq) xh_49 rfl rfl (by decide) rfl (Nat.le_of_ble_eq_true rfl) dX11_likeliestOf_19 hf (fun v5 hf => ?_)
      refine xr_aload_n B dX11_likeliestOf_22 rfl rfl ?_
      refine xr_iload_n B dX11_likeliestOf_23 rfl rfl ?_
      refine xr_iload_n B dX11_likeliestOf_24 rfl rfl ?_
      refine xr_iload_n B dX11_likeliestOf_25 rfl rfl ?_
      refine xr_cVi B (rest := [.int v5]) [.int a1, .int a2, .int t1.1] xm_X11_weightOf xv_X11_182 (fun q hq => xc_X11_weightOf l D ad ca σ a1 a2 t1.1 q hq) xh_49 rfl rfl (by decide) rfl (Nat.le_of_ble_eq_true rfl) dX11_likeliestOf_26 hf (fun v6 hf => ?_)
      refine xr_meet (fun (w7 : Int32) => J 38 [some (.ref (ad 49)), some (.int a1), some (.int a2), none, some (.int t1.2)] [.int w7] σ) hf (fun w7 hf => ?_) (fun j8 hj8 hf => ?_)
      · refine xr_istore_n B (lv2 := [some (.ref (ad 49)), some (.int a1), some (.int a2), some (.int w7), some (.int t1.2)]) dX11_likeliestOf_38 rfl (by decide) rfl ?_
        refine xr_iinc B (v := (t1.2 + 1)) (lv2 := [some (.ref (ad 49)), some (.int a1), some (.int a2), some (.int w7), some (.int (t1.2 + 1))]) dX11_likeliestOf_39 rfl (congrArg (t1.2 + ·) (by decide : Int32.ofInt (1) = 1)) (by decide) rfl ?_
        refine xr_goto B (tgt := 5) dX11_likeliestOf_42 (by decide) ?_
        exact hrec2 w7 (t1.2 + 1) hf
      · refine xr_ic_le B (tgt := 37) dX11_likeliestOf_29 (by decide) hf (fun _ hf => ?_) (fun _ hf => ?_)
        · refine xr_iload_n B dX11_likeliestOf_37 rfl rfl ?_
          refine xr_forget B (lv2 := [some (.ref (ad 49)), some (.int a1), some (.int a2), none, some (.int t1.2)]) ⟨rfl, ⟨rfl, ⟨rfl, ⟨rfl, trivial⟩⟩⟩⟩ ?_
          exact hj8 t1.1 hf
        · refine xr_iload B dX11_likeliestOf_32 rfl ?_
          refine xr_goto B (tgt := 38) dX11_likeliestOf_34 (by decide) ?_
          refine xr_forget B (lv2 := [some (.ref (ad 49)), some (.int a1), some (.int a2), none, some (.int t1.2)]) ⟨rfl, ⟨rfl, ⟨rfl, ⟨rfl, trivial⟩⟩⟩⟩ ?_
          exact hj8 t1.2 hf

noncomputable def xf_X11_weight (σ : xr_S) (a1 : Int32) (a2 : Int32) : Option Int32 := (xf_X11_isSleeper σ a1).bind (fun v1 => if v1 = 0 then (some (-1000000001)) else ((xf_X11_isDream σ a2).bind (fun v2 => if v2 = 0 then (some (-1000000001)) else ((xf_X11_weightOf σ 0 a1 a2).bind (fun v3 => some v3)))))
set_option maxRecDepth 100000 in
set_option maxHeartbeats 4000000 in
theorem xc_X11_weight (l : Launch) (D : va_G) (ad : Nat → Nat) (ca : Nat → ClassId) (σ : xr_S) (a1 : Int32) (a2 : Int32) (q : Int32) (hf : xf_X11_weight σ a1 a2 = some q) : xr_M l D ad ca yX11_weight cX11_weight 3 (some .int) 2 46 [.ref (ad 49), .int a1, .int a2] σ (some (.int q)) σ := by
  refine xr_openI [some (.ref (ad 49)), some (.int a1), some (.int a2)] xm_X11_weight (Nat.le_of_ble_eq_true rfl) rfl (fun J B RR => ?_)
  unfold xf_X11_weight at hf
  refine xr_aload_n B dX11_weight_0 rfl rfl ?_
  refine xr_iload_n B dX11_weight_1 rfl rfl ?_
  refine xr_cVi B (rest := []) [.int a1] xm_X11_isSleeper xv_X11_186 (fun q hq => xc_X11_isSleeper l D ad ca σ a1 q hq) xh_49 rfl rfl (by decide) rfl (Nat.le_of_ble_eq_true rfl) dX11_weight_2 hf (fun v1 hf => ?_)
  refine xr_if_eq B (tgt := 26) dX11_weight_5 (by decide) hf (fun _ hf => ?_) (fun _ hf => ?_)
  · refine xr_ldc B xk_X11_192 dX11_weight_26 ?_
    obtain rfl := Option.some.inj hf
    exact RR _ _ _ dX11_weight_28 rfl
  · refine xr_aload_n B dX11_weight_8 rfl rfl ?_
    refine xr_iload_n B dX11_weight_9 rfl rfl ?_
    refine xr_cVi B (rest := []) [.int a2] xm_X11_isDream xv_X11_189 (fun q hq => xc_X11_isDream l D ad ca σ a2 q hq) xh_49 rfl rfl (by decide) rfl (Nat.le_of_ble_eq_true rfl) dX11_weight_10 hf (fun v2 hf => ?_)
    refine xr_if_eq B (tgt := 26) dX11_weight_13 (by decide) hf (fun _ hf => ?_) (fun _ hf => ?_)
    · refine xr_ldc B xk_X11_192 dX11_weight_26 ?_
      obtain rfl := Option.some.inj hf
      exact RR _ _ _ dX11_weight_28 rfl
    · refine xr_aload_n B dX11_weight_16 rfl rfl ?_
      refine xr_iconst B (v := 0) dX11_weight_17 (by decide) ?_
      refine xr_iload_n B dX11_weight_18 rfl rfl ?_
      refine xr_iload_n B dX11_weight_19 rfl rfl ?_
      refine xr_cVi B (rest := []) [.int 0, .int a1, .int a2] xm_X11_weightOf xv_X11_182 (fun q hq => xc_X11_weightOf l D ad ca σ 0 a1 a2 q hq) xh_49 rfl rfl (by decide) rfl (Nat.le_of_ble_eq_true rfl) dX11_weight_20 hf (fun v3 hf => ?_)
      refine xr_goto B (tgt := 28) dX11_weight_23 (by decide) ?_
      obtain rfl := Option.some.inj hf
      exact RR _ _ _ dX11_weight_28 rfl

noncomputable def xf_X11_odds_L57  (K9 : Int32 → Option Int32) (t6 : (Int32 × Int32)) (rec7 : (Int32 × Int32) → Option Int32) : Option Int32 := if t6.2 = 0 then (K9 t6.1) else (xr_nz t6.2 (xr_v ((t6.1 - t6.1 / t6.2 * t6.2)) (fun v10 => rec7 (t6.2, v10))))
noncomputable def xf_X11_odds (σ : xr_S) (a1 : Int32) (a2 : Int32) (a3 : Int32) : Option Int32 := (xf_X11_isSleeper σ a1).bind (fun v1 => if v1 = 0 then (some (-1000000001)) else ((xf_X11_isDream σ a2).bind (fun v2 => if v2 = 0 then (some (-1000000001)) else ((xf_X11_in σ (Int32.toInt64 a3) 0 1).bind (fun v3 => if v3 = 0 then (some (-1000000002)) else ((xf_X11_weightOf σ 0 a1 a2).bind (fun v4 => (xf_X11_allOf σ 0 a1).bind (fun v5 => xr_lw (xf_X11_odds_L57 (fun (e8 : Int32) => if a3 = 0 then (xr_nz e8 (some (v4 / e8))) else (xr_nz e8 (some (v5 / e8))))) (v4, v5)))))))))
set_option maxRecDepth 100000 in
set_option maxHeartbeats 4000000 in
theorem xc_X11_odds (l : Launch) (D : va_G) (ad : Nat → Nat) (ca : Nat → ClassId) (σ : xr_S) (a1 : Int32) (a2 : Int32) (a3 : Int32) (q : Int32) (hf : xf_X11_odds σ a1 a2 a3 = some q) : xr_M l D ad ca yX11_odds cX11_odds 9 (some .int) 2 47 [.ref (ad 49), .int a1, .int a2, .int a3] σ (some (.int q)) σ := by
  refine xr_openI [some (.ref (ad 49)), some (.int a1), some (.int a2), some (.int a3), none, none, none, none, none] xm_X11_odds (Nat.le_of_ble_eq_true rfl) rfl (fun J B RR => ?_)
  unfold xf_X11_odds at hf
  refine xr_aload_n B dX11_odds_0 rfl rfl ?_
  refine xr_iload_n B dX11_odds_1 rfl rfl ?_
  refine xr_cVi B (rest := []) [.int a1] xm_X11_isSleeper xv_X11_186 (fun q hq => xc_X11_isSleeper l D ad ca σ a1 q hq) xh_49 rfl rfl (by decide) rfl (Nat.le_of_ble_eq_true rfl) dX11_odds_2 hf (fun v1 hf => ?_)
  refine xr_if_eq B (tgt := 16) dX11_odds_5 (by decide) hf (fun _ hf => ?_) (fun _ hf => ?_)
  · refine xr_ldc B xk_X11_192 dX11_odds_16 ?_
    obtain rfl := Option.some.inj hf
    exact RR _ _ _ dX11_odds_18 rfl
  · refine xr_aload_n B dX11_odds_8 rfl rfl ?_
    refine xr_iload_n B dX11_odds_9 rfl rfl ?_
    refine xr_cVi B (rest := []) [.int a2] xm_X11_isDream xv_X11_189 (fun q hq => xc_X11_isDream l D ad ca σ a2 q hq) xh_49 rfl rfl (by decide) rfl (Nat.le_of_ble_eq_true rfl) dX11_odds_10 hf (fun v2 hf => ?_)
    refine xr_if_ne B (tgt := 19) dX11_odds_13 (by decide) hf (fun _ hf => ?_) (fun _ hf => ?_)
    · refine xr_ldc B xk_X11_192 dX11_odds_16 ?_
      obtain rfl := Option.some.inj hf
      exact RR _ _ _ dX11_odds_18 rfl
    · refine xr_iload_n B dX11_odds_19 rfl rfl ?_
      refine xr_i2l B dX11_odds_20 ?_
      refine xr_lconst B (v := 0) dX11_odds_21 (by decide) ?_
      refine xr_lconst B (v := 1) dX11_odds_22 (by decide) ?_
      refine xr_cSi B (rest := []) [.long (Int32.toInt64 a3), .long 0, .long 1] xm_X11_in xs_X11_76 (fun q hq => xc_X11_in l D ad ca σ (Int32.toInt64 a3) 0 1 q hq) rfl (by decide) rfl (Nat.le_of_ble_eq_true rfl) dX11_odds_23 hf (fun v3 hf => ?_)
      refine xr_if_ne B (tgt := 32) dX11_odds_26 (by decide) hf (fun _ hf => ?_) (fun _ hf => ?_)
      · refine xr_ldc B xk_X11_88 dX11_odds_29 ?_
        obtain rfl := Option.some.inj hf
        exact RR _ _ _ dX11_odds_31 rfl
      · refine xr_aload_n B dX11_odds_32 rfl rfl ?_
        refine xr_iconst B (v := 0) dX11_odds_33 (by decide) ?_
        refine xr_iload_n B dX11_odds_34 rfl rfl ?_
        refine xr_iload_n B dX11_odds_35 rfl rfl ?_
        refine xr_cVi B (rest := []) [.int 0, .int a1, .int a2] xm_X11_weightOf xv_X11_182 (fun q hq => xc_X11_weightOf l D ad ca σ 0 a1 a2 q hq) xh_49 rfl rfl (by decide) rfl (Nat.le_of_ble_eq_true rfl) dX11_odds_36 hf (fun v4 hf => ?_)
        refine xr_istore B (lv2 := [some (.ref (ad 49)), some (.int a1), some (.int a2), some (.int a3), some (.int v4), none, none, none, none]) dX11_odds_39 (by decide) rfl ?_
        refine xr_aload_n B dX11_odds_41 rfl rfl ?_
        refine xr_iconst B (v := 0) dX11_odds_42 (by decide) ?_
        refine xr_iload_n B dX11_odds_43 rfl rfl ?_
        refine xr_cVi B (rest := []) [.int 0, .int a1] xm_X11_allOf xv_X11_193 (fun q hq => xc_X11_allOf l D ad ca σ 0 a1 q hq) xh_49 rfl rfl (by decide) rfl (Nat.le_of_ble_eq_true rfl) dX11_odds_44 hf (fun v5 hf => ?_)
        refine xr_istore B (lv2 := [some (.ref (ad 49)), some (.int a1), some (.int a2), some (.int a3), some (.int v4), some (.int v5), none, none, none]) dX11_odds_47 (by decide) rfl ?_
        refine xr_iload B dX11_odds_49 rfl ?_
        refine xr_istore B (lv2 := [some (.ref (ad 49)), some (.int a1), some (.int a2), some (.int a3), some (.int v4), some (.int v5), some (.int v4), none, none]) dX11_odds_51 (by decide) rfl ?_
        refine xr_iload B dX11_odds_53 rfl ?_
        refine xr_istore B (lv2 := [some (.ref (ad 49)), some (.int a1), some (.int a2), some (.int a3), some (.int v4), some (.int v5), some (.int v4), some (.int v5), none]) dX11_odds_55 (by decide) rfl ?_
        refine xr_forget B (lv2 := [none, none, none, some (.int a3), some (.int v4), some (.int v5), some (.int v4), some (.int v5), none]) ⟨rfl, ⟨rfl, ⟨rfl, ⟨rfl, ⟨rfl, trivial⟩⟩⟩⟩⟩ ?_
        refine xq_loop (fun (t6 : (Int32 × Int32)) => J 57 [none, none, none, some (.int a3), some (.int v4), some (.int v5), some (.int t6.1), some (.int t6.2), none] [] σ) (fun (e8 : Int32) => J 80 [none, none, none, some (.int a3), some (.int v4), some (.int v5), some (.int e8), none, none] [] σ) hf (fun e8 hf => ?_) (fun K9 hK9 t6 rec7 hrec7 hf => ?_)
        · refine xr_iload_n B dX11_odds_80 rfl rfl ?_
          refine xr_if_ne B (tgt := 92) dX11_odds_81 (by decide) hf (fun _ hf => ?_) (fun _ hf => ?_)
          · refine xr_iload B dX11_odds_84 rfl ?_
            refine xr_iload B dX11_odds_86 rfl ?_
            refine xr_idiv B dX11_odds_88 hf (fun hf => ?_)
            refine xr_goto B (tgt := 97) dX11_odds_89 (by decide) ?_
            obtain rfl := Option.some.inj hf
            exact RR _ _ _ dX11_odds_97 rfl
          · refine xr_iload B dX11_odds_92 rfl ?_
            refine xr_iload B dX11_odds_94 rfl ?_
            refine xr_idiv B dX11_odds_96 hf (fun hf => ?_)
            obtain rfl := Option.some.inj hf
            exact RR _ _ _ dX11_odds_97 rfl
        · have hrec7 : ∀ (b1 : Int32) (b2 : Int32), rec7 (b1, b2) = some q → J 57 [none, none, none, some (.int a3), some (.int v4), some (.int v5), some (.int b1), some (.int b2), none] [] σ := fun b1 b2 h => hrec7 (b1, b2) h
          unfold xf_X11_odds_L57 at hf
          refine xr_iload B dX11_odds_57 rfl ?_
          refine xr_if_eq B (tgt := 80) dX11_odds_59 (by decide) hf (fun _ hf => ?_) (fun _ hf => ?_)
          · refine xr_forget B (lv2 := [none, none, none, some (.int a3), some (.int v4), some (.int v5), some (.int t6.1), none, none]) ⟨rfl, ⟨rfl, ⟨rfl, ⟨rfl, trivial⟩⟩⟩⟩ ?_
            exact hK9 t6.1 hf
          · refine xr_iload B dX11_odds_62 rfl ?_
            refine xr_iload B dX11_odds_64 rfl ?_
            refine xr_irem B dX11_odds_66 hf (fun hf => ?_)
            refine xr_top _ hf (fun v10 hf => ?_)
            refine xr_istore B (lv2 := [none, none, none, some (.int a3), some (.int v4), some (.int v5), some (.int t6.1), some (.int t6.2), some (.int v10)]) dX11_odds_67 (by decide) rfl ?_
            refine xr_iload B dX11_odds_69 rfl ?_
            refine xr_istore B (lv2 := [none, none, none, some (.int a3), some (.int v4), some (.int v5), some (.int t6.2), some (.int t6.2), some (.int v10)]) dX11_odds_71 (by decide) rfl ?_
            refine xr_iload B dX11_odds_73 rfl ?_
            refine xr_istore B (lv2 := [none, none, none, some (.int a3), some (.int v4), some (.int v5), some (.int t6.2), some (.int v10), some (.int v10)]) dX11_odds_75 (by decide) rfl ?_
            refine xr_goto B (tgt := 57) dX11_odds_77 (by decide) ?_
            refine xr_forget B (lv2 := [none, none, none, some (.int a3), some (.int v4), some (.int v5), some (.int t6.2), some (.int v10), none]) ⟨rfl, ⟨rfl, ⟨rfl, ⟨rfl, ⟨rfl, trivial⟩⟩⟩⟩⟩ ?_
            exact hrec7 t6.2 v10 hf

noncomputable def xf_X11_likeliest (σ : xr_S) (a1 : Int32) : Option Int32 := (xf_X11_isSleeper σ a1).bind (fun v1 => if v1 = 0 then (some (-1000000001)) else ((xf_X11_likeliestOf σ 0 a1).bind (fun v2 => some v2)))
set_option maxRecDepth 100000 in
set_option maxHeartbeats 4000000 in
theorem xc_X11_likeliest (l : Launch) (D : va_G) (ad : Nat → Nat) (ca : Nat → ClassId) (σ : xr_S) (a1 : Int32) (q : Int32) (hf : xf_X11_likeliest σ a1 = some q) : xr_M l D ad ca yX11_likeliest cX11_likeliest 2 (some .int) 2 47 [.ref (ad 49), .int a1] σ (some (.int q)) σ := by
  refine xr_openI [some (.ref (ad 49)), some (.int a1)] xm_X11_likeliest (Nat.le_of_ble_eq_true rfl) rfl (fun J B RR => ?_)
  unfold xf_X11_likeliest at hf
  refine xr_aload_n B dX11_likeliest_0 rfl rfl ?_
  refine xr_iload_n B dX11_likeliest_1 rfl rfl ?_
  refine xr_cVi B (rest := []) [.int a1] xm_X11_isSleeper xv_X11_186 (fun q hq => xc_X11_isSleeper l D ad ca σ a1 q hq) xh_49 rfl rfl (by decide) rfl (Nat.le_of_ble_eq_true rfl) dX11_likeliest_2 hf (fun v1 hf => ?_)
  refine xr_if_eq B (tgt := 17) dX11_likeliest_5 (by decide) hf (fun _ hf => ?_) (fun _ hf => ?_)
  · refine xr_ldc B xk_X11_192 dX11_likeliest_17 ?_
    obtain rfl := Option.some.inj hf
    exact RR _ _ _ dX11_likeliest_19 rfl
  · refine xr_aload_n B dX11_likeliest_8 rfl rfl ?_
    refine xr_iconst B (v := 0) dX11_likeliest_9 (by decide) ?_
    refine xr_iload_n B dX11_likeliest_10 rfl rfl ?_
    refine xr_cVi B (rest := []) [.int 0, .int a1] xm_X11_likeliestOf xv_X11_197 (fun q hq => xc_X11_likeliestOf l D ad ca σ 0 a1 q hq) xh_49 rfl rfl (by decide) rfl (Nat.le_of_ble_eq_true rfl) dX11_likeliest_11 hf (fun v2 hf => ?_)
    refine xr_goto B (tgt := 19) dX11_likeliest_14 (by decide) ?_
    obtain rfl := Option.some.inj hf
    exact RR _ _ _ dX11_likeliest_19 rfl

noncomputable def xf_X11_loaf (σ : xr_S) (a1 : Int32) (a2 : Int32) : Option Int32 := (xf_X11_isLoaf σ a1).bind (fun v1 => if v1 = 0 then (some (-1000000001)) else (if a2 = 0 then (xr_ld σ 52 7 a1 (fun v2 => some v2)) else if a2 = 1 then (xr_ld σ 53 7 a1 (fun v3 => some v3)) else if a2 = 2 then (xr_ld σ 54 7 a1 (fun v4 => some v4)) else if a2 = 3 then (xr_ld σ 50 220 (30 + a1) (fun v5 => some v5)) else if a2 = 4 then (xr_ld σ 50 220 (37 + a1) (fun v6 => some v6)) else if a2 = 5 then (xr_ld σ 50 220 (44 + a1) (fun v7 => some v7)) else (some (-1000000002))))
set_option maxRecDepth 100000 in
set_option maxHeartbeats 4000000 in
theorem xc_X11_loaf (l : Launch) (D : va_G) (ad : Nat → Nat) (ca : Nat → ClassId) (σ : xr_S) (a1 : Int32) (a2 : Int32) (q : Int32) (hf : xf_X11_loaf σ a1 a2 = some q) : xr_M l D ad ca yX11_loaf cX11_loaf 3 (some .int) 2 46 [.ref (ad 49), .int a1, .int a2] σ (some (.int q)) σ := by
  refine xr_openI [some (.ref (ad 49)), some (.int a1), some (.int a2)] xm_X11_loaf (Nat.le_of_ble_eq_true rfl) rfl (fun J B RR => ?_)
  unfold xf_X11_loaf at hf
  refine xr_aload_n B dX11_loaf_0 rfl rfl ?_
  refine xr_iload_n B dX11_loaf_1 rfl rfl ?_
  refine xr_cVi B (rest := []) [.int a1] xm_X11_isLoaf xv_X11_200 (fun q hq => xc_X11_isLoaf l D ad ca σ a1 q hq) xh_49 rfl rfl (by decide) rfl (Nat.le_of_ble_eq_true rfl) dX11_loaf_2 hf (fun v1 hf => ?_)
  refine xr_if_ne B (tgt := 11) dX11_loaf_5 (by decide) hf (fun _ hf => ?_) (fun _ hf => ?_)
  · refine xr_ldc B xk_X11_192 dX11_loaf_8 ?_
    obtain rfl := Option.some.inj hf
    exact RR _ _ _ dX11_loaf_10 rfl
  · refine xr_iload_n B dX11_loaf_11 rfl rfl ?_
    by_cases hc0 : a2 = 0
    · rw [if_pos hc0] at hf
      refine xr_tabI B (off := 40) (tgt := 52) dX11_loaf_12 (by rw [hc0]; decide) (by rw [hc0]; decide) (by rw [hc0]; decide) (by decide) ?_
      refine xr_aload_n B dX11_loaf_52 rfl rfl ?_
      refine xr_getR B xg_X11_17 xh_49 rfl dX11_loaf_53 ?_
      refine xr_iload_n B dX11_loaf_56 rfl rfl ?_
      refine xq_iald B xh_52 dX11_loaf_57 hf (fun v2 hf => ?_)
      obtain rfl := Option.some.inj hf
      exact RR _ _ _ dX11_loaf_58 rfl
    rw [if_neg hc0] at hf
    by_cases hc1 : a2 = 1
    · rw [if_pos hc1] at hf
      refine xr_tabI B (off := 47) (tgt := 59) dX11_loaf_12 (by rw [hc1]; decide) (by rw [hc1]; decide) (by rw [hc1]; decide) (by decide) ?_
      refine xr_aload_n B dX11_loaf_59 rfl rfl ?_
      refine xr_getR B xg_X11_20 xh_49 rfl dX11_loaf_60 ?_
      refine xr_iload_n B dX11_loaf_63 rfl rfl ?_
      refine xq_iald B xh_53 dX11_loaf_64 hf (fun v3 hf => ?_)
      obtain rfl := Option.some.inj hf
      exact RR _ _ _ dX11_loaf_65 rfl
    rw [if_neg hc1] at hf
    by_cases hc2 : a2 = 2
    · rw [if_pos hc2] at hf
      refine xr_tabI B (off := 54) (tgt := 66) dX11_loaf_12 (by rw [hc2]; decide) (by rw [hc2]; decide) (by rw [hc2]; decide) (by decide) ?_
      refine xr_aload_n B dX11_loaf_66 rfl rfl ?_
      refine xr_getR B xg_X11_23 xh_49 rfl dX11_loaf_67 ?_
      refine xr_iload_n B dX11_loaf_70 rfl rfl ?_
      refine xq_iald B xh_54 dX11_loaf_71 hf (fun v4 hf => ?_)
      obtain rfl := Option.some.inj hf
      exact RR _ _ _ dX11_loaf_72 rfl
    rw [if_neg hc2] at hf
    by_cases hc3 : a2 = 3
    · rw [if_pos hc3] at hf
      refine xr_tabI B (off := 61) (tgt := 73) dX11_loaf_12 (by rw [hc3]; decide) (by rw [hc3]; decide) (by rw [hc3]; decide) (by decide) ?_
      refine xr_aload_n B dX11_loaf_73 rfl rfl ?_
      refine xr_getR B xg_X11_7 xh_49 rfl dX11_loaf_74 ?_
      refine xr_bipush B (v := 30) dX11_loaf_77 (by decide) ?_
      refine xr_iload_n B dX11_loaf_79 rfl rfl ?_
      refine xr_iadd B dX11_loaf_80 ?_
      refine xq_iald B xh_50 dX11_loaf_81 hf (fun v5 hf => ?_)
      obtain rfl := Option.some.inj hf
      exact RR _ _ _ dX11_loaf_82 rfl
    rw [if_neg hc3] at hf
    by_cases hc4 : a2 = 4
    · rw [if_pos hc4] at hf
      refine xr_tabI B (off := 71) (tgt := 83) dX11_loaf_12 (by rw [hc4]; decide) (by rw [hc4]; decide) (by rw [hc4]; decide) (by decide) ?_
      refine xr_aload_n B dX11_loaf_83 rfl rfl ?_
      refine xr_getR B xg_X11_7 xh_49 rfl dX11_loaf_84 ?_
      refine xr_bipush B (v := 37) dX11_loaf_87 (by decide) ?_
      refine xr_iload_n B dX11_loaf_89 rfl rfl ?_
      refine xr_iadd B dX11_loaf_90 ?_
      refine xq_iald B xh_50 dX11_loaf_91 hf (fun v6 hf => ?_)
      obtain rfl := Option.some.inj hf
      exact RR _ _ _ dX11_loaf_92 rfl
    rw [if_neg hc4] at hf
    by_cases hc5 : a2 = 5
    · rw [if_pos hc5] at hf
      refine xr_tabI B (off := 81) (tgt := 93) dX11_loaf_12 (by rw [hc5]; decide) (by rw [hc5]; decide) (by rw [hc5]; decide) (by decide) ?_
      refine xr_aload_n B dX11_loaf_93 rfl rfl ?_
      refine xr_getR B xg_X11_7 xh_49 rfl dX11_loaf_94 ?_
      refine xr_bipush B (v := 44) dX11_loaf_97 (by decide) ?_
      refine xr_iload_n B dX11_loaf_99 rfl rfl ?_
      refine xr_iadd B dX11_loaf_100 ?_
      refine xq_iald B xh_50 dX11_loaf_101 hf (fun v7 hf => ?_)
      obtain rfl := Option.some.inj hf
      exact RR _ _ _ dX11_loaf_102 rfl
    rw [if_neg hc5] at hf
    refine xr_tabO B (tgt := 103) dX11_loaf_12 (xr_tout 5 (by decide) (fun j hj => ?_)) (by decide) ?_
    · match j, hj with
      | 0, _ => exact hc0
      | 1, _ => exact hc1
      | 2, _ => exact hc2
      | 3, _ => exact hc3
      | 4, _ => exact hc4
      | 5, _ => exact hc5
      | j + 6, hj => exact absurd hj (by omega)
    · refine xr_ldc B xk_X11_88 dX11_loaf_103 ?_
      obtain rfl := Option.some.inj hf
      exact RR _ _ _ dX11_loaf_105 rfl

noncomputable def xf_X11_worthOf (σ : xr_S) (a1 : Int32) (a2 : Int32) : Option Int32 := xr_ld σ 54 7 a1 (fun v1 => xr_ld σ 53 7 a1 (fun v2 => (xf_X11_weightOf σ 0 a2 v2).bind (fun v3 => (xf_X11_allOf σ 0 a2).bind (fun v4 => xr_nl (Int32.toInt64 v4) (some (Int64.toInt32 (((1000000 * (Int32.toInt64 v1)) * (Int32.toInt64 v3)) / (Int32.toInt64 v4))))))))
set_option maxRecDepth 100000 in
set_option maxHeartbeats 4000000 in
theorem xc_X11_worthOf (l : Launch) (D : va_G) (ad : Nat → Nat) (ca : Nat → ClassId) (σ : xr_S) (a1 : Int32) (a2 : Int32) (q : Int32) (hf : xf_X11_worthOf σ a1 a2 = some q) : xr_M l D ad ca yX11_worthOf cX11_worthOf 3 (some .int) 2 47 [.ref (ad 49), .int a1, .int a2] σ (some (.int q)) σ := by
  refine xr_openI [some (.ref (ad 49)), some (.int a1), some (.int a2)] xm_X11_worthOf (Nat.le_of_ble_eq_true rfl) rfl (fun J B RR => ?_)
  unfold xf_X11_worthOf at hf
  refine xr_ldc2 B xl_X11_203 dX11_worthOf_0 ?_
  refine xr_aload_n B dX11_worthOf_3 rfl rfl ?_
  refine xr_getR B xg_X11_23 xh_49 rfl dX11_worthOf_4 ?_
  refine xr_iload_n B dX11_worthOf_7 rfl rfl ?_
  refine xq_iald B xh_54 dX11_worthOf_8 hf (fun v1 hf => ?_)
  refine xr_i2l B dX11_worthOf_9 ?_
  refine xr_lmul B dX11_worthOf_10 ?_
  refine xr_aload_n B dX11_worthOf_11 rfl rfl ?_
  refine xr_iconst B (v := 0) dX11_worthOf_12 (by decide) ?_
  refine xr_iload_n B dX11_worthOf_13 rfl rfl ?_
  refine xr_aload_n B dX11_worthOf_14 rfl rfl ?_
  refine xr_getR B xg_X11_20 xh_49 rfl dX11_worthOf_15 ?_
  refine xr_iload_n B dX11_worthOf_18 rfl rfl ?_
  refine xq_iald B xh_53 dX11_worthOf_19 hf (fun v2 hf => ?_)
  refine xr_cVi B (rest := [.long (1000000 * (Int32.toInt64 v1))]) [.int 0, .int a2, .int v2] xm_X11_weightOf xv_X11_182 (fun q hq => xc_X11_weightOf l D ad ca σ 0 a2 v2 q hq) xh_49 rfl rfl (by decide) rfl (Nat.le_of_ble_eq_true rfl) dX11_worthOf_20 hf (fun v3 hf => ?_)
  refine xr_i2l B dX11_worthOf_23 ?_
  refine xr_lmul B dX11_worthOf_24 ?_
  refine xr_aload_n B dX11_worthOf_25 rfl rfl ?_
  refine xr_iconst B (v := 0) dX11_worthOf_26 (by decide) ?_
  refine xr_iload_n B dX11_worthOf_27 rfl rfl ?_
  refine xr_cVi B (rest := [.long ((1000000 * (Int32.toInt64 v1)) * (Int32.toInt64 v3))]) [.int 0, .int a2] xm_X11_allOf xv_X11_193 (fun q hq => xc_X11_allOf l D ad ca σ 0 a2 q hq) xh_49 rfl rfl (by decide) rfl (Nat.le_of_ble_eq_true rfl) dX11_worthOf_28 hf (fun v4 hf => ?_)
  refine xr_i2l B dX11_worthOf_31 ?_
  refine xr_ldiv B dX11_worthOf_32 hf (fun hf => ?_)
  refine xr_l2i B dX11_worthOf_33 ?_
  obtain rfl := Option.some.inj hf
  exact RR _ _ _ dX11_worthOf_34 rfl

noncomputable def xf_X11_worth (σ : xr_S) (a1 : Int32) (a2 : Int32) : Option Int32 := (xf_X11_isLoaf σ a1).bind (fun v1 => if v1 = 0 then (some (-1000000001)) else ((xf_X11_isSleeper σ a2).bind (fun v2 => if v2 = 0 then (some (-1000000001)) else (xr_ld σ 52 7 a1 (fun v3 => if v3 = a2 then (some (-1000000003)) else ((xf_X11_worthOf σ a1 a2).bind (fun v4 => some v4)))))))
set_option maxRecDepth 100000 in
set_option maxHeartbeats 4000000 in
theorem xc_X11_worth (l : Launch) (D : va_G) (ad : Nat → Nat) (ca : Nat → ClassId) (σ : xr_S) (a1 : Int32) (a2 : Int32) (q : Int32) (hf : xf_X11_worth σ a1 a2 = some q) : xr_M l D ad ca yX11_worth cX11_worth 3 (some .int) 3 69 [.ref (ad 49), .int a1, .int a2] σ (some (.int q)) σ := by
  refine xr_openI [some (.ref (ad 49)), some (.int a1), some (.int a2)] xm_X11_worth (Nat.le_of_ble_eq_true rfl) rfl (fun J B RR => ?_)
  unfold xf_X11_worth at hf
  refine xr_aload_n B dX11_worth_0 rfl rfl ?_
  refine xr_iload_n B dX11_worth_1 rfl rfl ?_
  refine xr_cVi B (rest := []) [.int a1] xm_X11_isLoaf xv_X11_200 (fun q hq => xc_X11_isLoaf l D ad ca σ a1 q hq) xh_49 rfl rfl (by decide) rfl (Nat.le_of_ble_eq_true rfl) dX11_worth_2 hf (fun v1 hf => ?_)
  refine xr_if_eq B (tgt := 16) dX11_worth_5 (by decide) hf (fun _ hf => ?_) (fun _ hf => ?_)
  · refine xr_ldc B xk_X11_192 dX11_worth_16 ?_
    obtain rfl := Option.some.inj hf
    exact RR _ _ _ dX11_worth_18 rfl
  · refine xr_aload_n B dX11_worth_8 rfl rfl ?_
    refine xr_iload_n B dX11_worth_9 rfl rfl ?_
    refine xr_cVi B (rest := []) [.int a2] xm_X11_isSleeper xv_X11_186 (fun q hq => xc_X11_isSleeper l D ad ca σ a2 q hq) xh_49 rfl rfl (by decide) rfl (Nat.le_of_ble_eq_true rfl) dX11_worth_10 hf (fun v2 hf => ?_)
    refine xr_if_ne B (tgt := 19) dX11_worth_13 (by decide) hf (fun _ hf => ?_) (fun _ hf => ?_)
    · refine xr_ldc B xk_X11_192 dX11_worth_16 ?_
      obtain rfl := Option.some.inj hf
      exact RR _ _ _ dX11_worth_18 rfl
    · refine xr_aload_n B dX11_worth_19 rfl rfl ?_
      refine xr_getR B xg_X11_17 xh_49 rfl dX11_worth_20 ?_
      refine xr_iload_n B dX11_worth_23 rfl rfl ?_
      refine xq_iald B xh_52 dX11_worth_24 hf (fun v3 hf => ?_)
      refine xr_iload_n B dX11_worth_25 rfl rfl ?_
      refine xr_ic_ne B (tgt := 34) dX11_worth_26 (by decide) hf (fun _ hf => ?_) (fun _ hf => ?_)
      · refine xr_ldc B xk_X11_205 dX11_worth_29 ?_
        refine xr_goto B (tgt := 40) dX11_worth_31 (by decide) ?_
        obtain rfl := Option.some.inj hf
        exact RR _ _ _ dX11_worth_40 rfl
      · refine xr_aload_n B dX11_worth_34 rfl rfl ?_
        refine xr_iload_n B dX11_worth_35 rfl rfl ?_
        refine xr_iload_n B dX11_worth_36 rfl rfl ?_
        refine xr_cVi B (rest := []) [.int a1, .int a2] xm_X11_worthOf xv_X11_206 (fun q hq => xc_X11_worthOf l D ad ca σ a1 a2 q hq) xh_49 rfl rfl (by decide) rfl (Nat.le_of_ble_eq_true rfl) dX11_worth_37 hf (fun v4 hf => ?_)
        obtain rfl := Option.some.inj hf
        exact RR _ _ _ dX11_worth_40 rfl

noncomputable def xf_X11_isFresh (σ : xr_S) (a1 : Int32) : Option Int32 := xr_ld σ 50 220 (37 + a1) (fun v1 => if v1 = (-1) then (some 1) else (some 0))
set_option maxRecDepth 100000 in
set_option maxHeartbeats 4000000 in
theorem xc_X11_isFresh (l : Launch) (D : va_G) (ad : Nat → Nat) (ca : Nat → ClassId) (σ : xr_S) (a1 : Int32) (q : Int32) (hf : xf_X11_isFresh σ a1 = some q) : xr_M l D ad ca yX11_isFresh cX11_isFresh 2 (some .boolean) 0 0 [.ref (ad 49), .int a1] σ (some (.int q)) σ := by
  refine xr_openZ [some (.ref (ad 49)), some (.int a1)] xm_X11_isFresh (Nat.le_of_ble_eq_true rfl) rfl (fun J B RR => ?_)
  unfold xf_X11_isFresh at hf
  refine xr_aload_n B dX11_isFresh_0 rfl rfl ?_
  refine xr_getR B xg_X11_7 xh_49 rfl dX11_isFresh_1 ?_
  refine xr_bipush B (v := 37) dX11_isFresh_4 (by decide) ?_
  refine xr_iload_n B dX11_isFresh_6 rfl rfl ?_
  refine xr_iadd B dX11_isFresh_7 ?_
  refine xq_iald B xh_50 dX11_isFresh_8 hf (fun v1 hf => ?_)
  refine xr_iconst B (v := (-1)) dX11_isFresh_9 (by decide) ?_
  refine xr_ic_ne B (tgt := 17) dX11_isFresh_10 (by decide) hf (fun _ hf => ?_) (fun _ hf => ?_)
  · refine xr_iconst B (v := 1) dX11_isFresh_13 (by decide) ?_
    refine xr_goto B (tgt := 18) dX11_isFresh_14 (by decide) ?_
    obtain rfl := Option.some.inj hf
    exact RR _ _ _ (by decide) dX11_isFresh_18 rfl
  · refine xr_iconst B (v := 0) dX11_isFresh_17 (by decide) ?_
    obtain rfl := Option.some.inj hf
    exact RR _ _ _ (by decide) dX11_isFresh_18 rfl

noncomputable def xf_X11_onPillow_L4 (σ : xr_S) (a1 : Int32) (K4 : Int32 → Option Int32) (t1 : (Int32 × Int32)) (rec2 : (Int32 × Int32) → Option Int32) : Option Int32 := if (σ.1 49 5) ≤ t1.2 then (K4 t1.1) else (xr_ld σ 50 220 (30 + t1.2) (fun v5 => xr_jn (fun (w6 : Int32) => rec2 (w6, (t1.2 + 1))) (fun j7 => if v5 = a1 then (j7 t1.2) else (j7 t1.1))))
noncomputable def xf_X11_onPillow (σ : xr_S) (a1 : Int32) : Option Int32 := xr_lw (xf_X11_onPillow_L4 σ a1 (fun (e3 : Int32) => some e3)) ((-1), 0)
set_option maxRecDepth 100000 in
set_option maxHeartbeats 4000000 in
theorem xc_X11_onPillow (l : Launch) (D : va_G) (ad : Nat → Nat) (ca : Nat → ClassId) (σ : xr_S) (a1 : Int32) (q : Int32) (hf : xf_X11_onPillow σ a1 = some q) : xr_M l D ad ca yX11_onPillow cX11_onPillow 4 (some .int) 0 0 [.ref (ad 49), .int a1] σ (some (.int q)) σ := by
  refine xr_openI [some (.ref (ad 49)), some (.int a1), none, none] xm_X11_onPillow (Nat.le_of_ble_eq_true rfl) rfl (fun J B RR => ?_)
  unfold xf_X11_onPillow at hf
  refine xr_iconst B (v := (-1)) dX11_onPillow_0 (by decide) ?_
  refine xr_istore_n B (lv2 := [some (.ref (ad 49)), some (.int a1), some (.int (-1)), none]) dX11_onPillow_1 rfl (by decide) rfl ?_
  refine xr_iconst B (v := 0) dX11_onPillow_2 (by decide) ?_
  refine xr_istore_n B (lv2 := [some (.ref (ad 49)), some (.int a1), some (.int (-1)), some (.int 0)]) dX11_onPillow_3 rfl (by decide) rfl ?_
  refine xq_loop (fun (t1 : (Int32 × Int32)) => J 4 [some (.ref (ad 49)), some (.int a1), some (.int t1.1), some (.int t1.2)] [] σ) (fun (e3 : Int32) => J 37 [none, none, some (.int e3), none] [] σ) hf (fun e3 hf => ?_) (fun K4 hK4 t1 rec2 hrec2 hf => ?_)
  · refine xr_iload_n B dX11_onPillow_37 rfl rfl ?_
    obtain rfl := Option.some.inj hf
    exact RR _ _ _ dX11_onPillow_38 rfl
  · have hrec2 : ∀ (b1 : Int32) (b2 : Int32), rec2 (b1, b2) = some q → J 4 [some (.ref (ad 49)), some (.int a1), some (.int b1), some (.int b2)] [] σ := fun b1 b2 h => hrec2 (b1, b2) h
    unfold xf_X11_onPillow_L4 at hf
    refine xr_iload_n B dX11_onPillow_4 rfl rfl ?_
    refine xr_aload_n B dX11_onPillow_5 rfl rfl ?_
    refine xr_getI B xg_X11_83 xh_49 rfl dX11_onPillow_6 ?_
    refine xr_ic_ge B (tgt := 37) dX11_onPillow_9 (by decide) hf (fun _ hf => ?_) (fun _ hf => ?_)
    · refine xr_forget B (lv2 := [none, none, some (.int t1.1), none]) ⟨rfl, trivial⟩ ?_
      exact hK4 t1.1 hf
    · refine xr_aload_n B dX11_onPillow_12 rfl rfl ?_
      refine xr_getR B xg_X11_7 xh_49 rfl dX11_onPillow_13 ?_
      refine xr_bipush B (v := 30) dX11_onPillow_16 (by decide) ?_
      refine xr_iload_n B dX11_onPillow_18 rfl rfl ?_
      refine xr_iadd B dX11_onPillow_19 ?_
      refine xq_iald B xh_50 dX11_onPillow_20 hf (fun v5 hf => ?_)
      refine xr_iload_n B dX11_onPillow_21 rfl rfl ?_
      refine xr_meet (fun (w6 : Int32) => J 30 [some (.ref (ad 49)), some (.int a1), none, some (.int t1.2)] [.int w6] σ) hf (fun w6 hf => ?_) (fun j7 hj7 hf => ?_)
      · refine xr_istore_n B (lv2 := [some (.ref (ad 49)), some (.int a1), some (.int w6), some (.int t1.2)]) dX11_onPillow_30 rfl (by decide) rfl ?_
        refine xr_iinc B (v := (t1.2 + 1)) (lv2 := [some (.ref (ad 49)), some (.int a1), some (.int w6), some (.int (t1.2 + 1))]) dX11_onPillow_31 rfl (congrArg (t1.2 + ·) (by decide : Int32.ofInt (1) = 1)) (by decide) rfl ?_
        refine xr_goto B (tgt := 4) dX11_onPillow_34 (by decide) ?_
        exact hrec2 w6 (t1.2 + 1) hf
      · refine xr_ic_ne B (tgt := 29) dX11_onPillow_22 (by decide) hf (fun _ hf => ?_) (fun _ hf => ?_)
        · refine xr_iload_n B dX11_onPillow_25 rfl rfl ?_
          refine xr_goto B (tgt := 30) dX11_onPillow_26 (by decide) ?_
          refine xr_forget B (lv2 := [some (.ref (ad 49)), some (.int a1), none, some (.int t1.2)]) ⟨rfl, ⟨rfl, ⟨rfl, trivial⟩⟩⟩ ?_
          exact hj7 t1.2 hf
        · refine xr_iload_n B dX11_onPillow_29 rfl rfl ?_
          refine xr_forget B (lv2 := [some (.ref (ad 49)), some (.int a1), none, some (.int t1.2)]) ⟨rfl, ⟨rfl, ⟨rfl, trivial⟩⟩⟩ ?_
          exact hj7 t1.1 hf

noncomputable def xf_X11_lay (σ : xr_S) (a1 : Int32) (a2 : Int32) : Option (Int32 × xr_S) := (xf_X11_isLoaf σ a1).bind (fun v1 => if v1 = 0 then (some ((-1000000001), σ)) else ((xf_X11_isSleeper σ a2).bind (fun v2 => if v2 = 0 then (some ((-1000000001), σ)) else ((xf_X11_isFresh σ a1).bind (fun v3 => if v3 = 0 then (some ((-1000000003), σ)) else (xr_ld σ 50 220 (30 + a1) (fun v4 => if v4 = (-1) then (xr_ld σ 52 7 a1 (fun v5 => if v5 = a2 then (some ((-1000000003), σ)) else ((xf_X11_onPillow σ a2).bind (fun v6 => if v6 = (-1) then (xr_st σ 50 220 (30 + a1) a2 (fun s7 => (xf_X11_loavesBy s7 9).bind (fun v8 => some (v8, s7)))) else (some ((-1000000003), σ)))))) else (some ((-1000000003), σ)))))))))
set_option maxRecDepth 100000 in
set_option maxHeartbeats 4000000 in
theorem xc_X11_lay (l : Launch) (D : va_G) (ad : Nat → Nat) (ca : Nat → ClassId) (σ : xr_S) (a1 : Int32) (a2 : Int32) (q : (Int32 × xr_S)) (hf : xf_X11_lay σ a1 a2 = some q) : xr_M l D ad ca yX11_lay cX11_lay 3 (some .int) 2 46 [.ref (ad 49), .int a1, .int a2] σ (some (.int q.1)) q.2 := by
  refine xr_openI [some (.ref (ad 49)), some (.int a1), some (.int a2)] xm_X11_lay (Nat.le_of_ble_eq_true rfl) rfl (fun J B RR => ?_)
  unfold xf_X11_lay at hf
  refine xr_aload_n B dX11_lay_0 rfl rfl ?_
  refine xr_iload_n B dX11_lay_1 rfl rfl ?_
  refine xr_cVi B (rest := []) [.int a1] xm_X11_isLoaf xv_X11_200 (fun q hq => xc_X11_isLoaf l D ad ca σ a1 q hq) xh_49 rfl rfl (by decide) rfl (Nat.le_of_ble_eq_true rfl) dX11_lay_2 hf (fun v1 hf => ?_)
  refine xr_if_eq B (tgt := 16) dX11_lay_5 (by decide) hf (fun _ hf => ?_) (fun _ hf => ?_)
  · refine xr_ldc B xk_X11_192 dX11_lay_16 ?_
    obtain rfl := Option.some.inj hf
    exact RR _ _ _ dX11_lay_18 rfl
  · refine xr_aload_n B dX11_lay_8 rfl rfl ?_
    refine xr_iload_n B dX11_lay_9 rfl rfl ?_
    refine xr_cVi B (rest := []) [.int a2] xm_X11_isSleeper xv_X11_186 (fun q hq => xc_X11_isSleeper l D ad ca σ a2 q hq) xh_49 rfl rfl (by decide) rfl (Nat.le_of_ble_eq_true rfl) dX11_lay_10 hf (fun v2 hf => ?_)
    refine xr_if_ne B (tgt := 19) dX11_lay_13 (by decide) hf (fun _ hf => ?_) (fun _ hf => ?_)
    · refine xr_ldc B xk_X11_192 dX11_lay_16 ?_
      obtain rfl := Option.some.inj hf
      exact RR _ _ _ dX11_lay_18 rfl
    · refine xr_aload_n B dX11_lay_19 rfl rfl ?_
      refine xr_iload_n B dX11_lay_20 rfl rfl ?_
      refine xr_cVi B (rest := []) [.int a1] xm_X11_isFresh xv_X11_209 (fun q hq => xc_X11_isFresh l D ad ca σ a1 q hq) xh_49 rfl rfl (by decide) rfl (Nat.le_of_ble_eq_true rfl) dX11_lay_21 hf (fun v3 hf => ?_)
      refine xr_if_eq B (tgt := 59) dX11_lay_24 (by decide) hf (fun _ hf => ?_) (fun _ hf => ?_)
      · refine xr_ldc B xk_X11_205 dX11_lay_59 ?_
        obtain rfl := Option.some.inj hf
        exact RR _ _ _ dX11_lay_61 rfl
      · refine xr_aload_n B dX11_lay_27 rfl rfl ?_
        refine xr_getR B xg_X11_7 xh_49 rfl dX11_lay_28 ?_
        refine xr_bipush B (v := 30) dX11_lay_31 (by decide) ?_
        refine xr_iload_n B dX11_lay_33 rfl rfl ?_
        refine xr_iadd B dX11_lay_34 ?_
        refine xq_iald B xh_50 dX11_lay_35 hf (fun v4 hf => ?_)
        refine xr_iconst B (v := (-1)) dX11_lay_36 (by decide) ?_
        refine xr_ic_ne B (tgt := 59) dX11_lay_37 (by decide) hf (fun _ hf => ?_) (fun _ hf => ?_)
        · refine xr_aload_n B dX11_lay_40 rfl rfl ?_
          refine xr_getR B xg_X11_17 xh_49 rfl dX11_lay_41 ?_
          refine xr_iload_n B dX11_lay_44 rfl rfl ?_
          refine xq_iald B xh_52 dX11_lay_45 hf (fun v5 hf => ?_)
          refine xr_iload_n B dX11_lay_46 rfl rfl ?_
          refine xr_ic_eq B (tgt := 59) dX11_lay_47 (by decide) hf (fun _ hf => ?_) (fun _ hf => ?_)
          · refine xr_ldc B xk_X11_205 dX11_lay_59 ?_
            obtain rfl := Option.some.inj hf
            exact RR _ _ _ dX11_lay_61 rfl
          · refine xr_aload_n B dX11_lay_50 rfl rfl ?_
            refine xr_iload_n B dX11_lay_51 rfl rfl ?_
            refine xr_cVi B (rest := []) [.int a2] xm_X11_onPillow xv_X11_212 (fun q hq => xc_X11_onPillow l D ad ca σ a2 q hq) xh_49 rfl rfl (by decide) rfl (Nat.le_of_ble_eq_true rfl) dX11_lay_52 hf (fun v6 hf => ?_)
            refine xr_iconst B (v := (-1)) dX11_lay_55 (by decide) ?_
            refine xr_ic_eq B (tgt := 62) dX11_lay_56 (by decide) hf (fun _ hf => ?_) (fun _ hf => ?_)
            · refine xr_aload_n B dX11_lay_62 rfl rfl ?_
              refine xr_getR B xg_X11_7 xh_49 rfl dX11_lay_63 ?_
              refine xr_bipush B (v := 30) dX11_lay_66 (by decide) ?_
              refine xr_iload_n B dX11_lay_68 rfl rfl ?_
              refine xr_iadd B dX11_lay_69 ?_
              refine xr_iload_n B dX11_lay_70 rfl rfl ?_
              refine xq_iast B xh_50 dX11_lay_71 hf (fun s7 hf => ?_)
              refine xr_aload_n B dX11_lay_72 rfl rfl ?_
              refine xr_bipush B (v := 9) dX11_lay_73 (by decide) ?_
              refine xr_cVi B (rest := []) [.int 9] xm_X11_loavesBy xv_X11_179 (fun q hq => xc_X11_loavesBy l D ad ca s7 9 q hq) xh_49 rfl rfl (by decide) rfl (Nat.le_of_ble_eq_true rfl) dX11_lay_75 hf (fun v8 hf => ?_)
              obtain rfl := Option.some.inj hf
              exact RR _ _ _ dX11_lay_78 rfl
            · refine xr_ldc B xk_X11_205 dX11_lay_59 ?_
              obtain rfl := Option.some.inj hf
              exact RR _ _ _ dX11_lay_61 rfl
        · refine xr_ldc B xk_X11_205 dX11_lay_59 ?_
          obtain rfl := Option.some.inj hf
          exact RR _ _ _ dX11_lay_61 rfl

noncomputable def xf_X11_takeOff (σ : xr_S) (a1 : Int32) : Option (Int32 × xr_S) := (xf_X11_isLoaf σ a1).bind (fun v1 => if v1 = 0 then (some ((-1000000001), σ)) else (xr_ld σ 50 220 (30 + a1) (fun v2 => xr_st σ 50 220 (30 + a1) (-1) (fun s3 => if v2 = (-1) then (some ((-1000000003), s3)) else (some (v2, s3))))))
set_option maxRecDepth 100000 in
set_option maxHeartbeats 4000000 in
theorem xc_X11_takeOff (l : Launch) (D : va_G) (ad : Nat → Nat) (ca : Nat → ClassId) (σ : xr_S) (a1 : Int32) (q : (Int32 × xr_S)) (hf : xf_X11_takeOff σ a1 = some q) : xr_M l D ad ca yX11_takeOff cX11_takeOff 3 (some .int) 2 46 [.ref (ad 49), .int a1] σ (some (.int q.1)) q.2 := by
  refine xr_openI [some (.ref (ad 49)), some (.int a1), none] xm_X11_takeOff (Nat.le_of_ble_eq_true rfl) rfl (fun J B RR => ?_)
  unfold xf_X11_takeOff at hf
  refine xr_aload_n B dX11_takeOff_0 rfl rfl ?_
  refine xr_iload_n B dX11_takeOff_1 rfl rfl ?_
  refine xr_cVi B (rest := []) [.int a1] xm_X11_isLoaf xv_X11_200 (fun q hq => xc_X11_isLoaf l D ad ca σ a1 q hq) xh_49 rfl rfl (by decide) rfl (Nat.le_of_ble_eq_true rfl) dX11_takeOff_2 hf (fun v1 hf => ?_)
  refine xr_if_ne B (tgt := 11) dX11_takeOff_5 (by decide) hf (fun _ hf => ?_) (fun _ hf => ?_)
  · refine xr_ldc B xk_X11_192 dX11_takeOff_8 ?_
    obtain rfl := Option.some.inj hf
    exact RR _ _ _ dX11_takeOff_10 rfl
  · refine xr_aload_n B dX11_takeOff_11 rfl rfl ?_
    refine xr_getR B xg_X11_7 xh_49 rfl dX11_takeOff_12 ?_
    refine xr_bipush B (v := 30) dX11_takeOff_15 (by decide) ?_
    refine xr_iload_n B dX11_takeOff_17 rfl rfl ?_
    refine xr_iadd B dX11_takeOff_18 ?_
    refine xq_iald B xh_50 dX11_takeOff_19 hf (fun v2 hf => ?_)
    refine xr_istore_n B (lv2 := [some (.ref (ad 49)), some (.int a1), some (.int v2)]) dX11_takeOff_20 rfl (by decide) rfl ?_
    refine xr_aload_n B dX11_takeOff_21 rfl rfl ?_
    refine xr_getR B xg_X11_7 xh_49 rfl dX11_takeOff_22 ?_
    refine xr_bipush B (v := 30) dX11_takeOff_25 (by decide) ?_
    refine xr_iload_n B dX11_takeOff_27 rfl rfl ?_
    refine xr_iadd B dX11_takeOff_28 ?_
    refine xr_iconst B (v := (-1)) dX11_takeOff_29 (by decide) ?_
    refine xq_iast B xh_50 dX11_takeOff_30 hf (fun s3 hf => ?_)
    refine xr_iload_n B dX11_takeOff_31 rfl rfl ?_
    refine xr_iconst B (v := (-1)) dX11_takeOff_32 (by decide) ?_
    refine xr_ic_ne B (tgt := 41) dX11_takeOff_33 (by decide) hf (fun _ hf => ?_) (fun _ hf => ?_)
    · refine xr_ldc B xk_X11_205 dX11_takeOff_36 ?_
      refine xr_goto B (tgt := 42) dX11_takeOff_38 (by decide) ?_
      obtain rfl := Option.some.inj hf
      exact RR _ _ _ dX11_takeOff_42 rfl
    · refine xr_iload_n B dX11_takeOff_41 rfl rfl ?_
      obtain rfl := Option.some.inj hf
      exact RR _ _ _ dX11_takeOff_42 rfl

noncomputable def xf_X11_isAwake (σ : xr_S) (a1 : Int32) : Option Int32 := xr_ld σ 50 220 51 (fun v1 => (xf_X11_has σ v1 a1).bind (fun v2 => xr_zb v2 (some v2)))
set_option maxRecDepth 100000 in
set_option maxHeartbeats 4000000 in
theorem xc_X11_isAwake (l : Launch) (D : va_G) (ad : Nat → Nat) (ca : Nat → ClassId) (σ : xr_S) (a1 : Int32) (q : Int32) (hf : xf_X11_isAwake σ a1 = some q) : xr_M l D ad ca yX11_isAwake cX11_isAwake 2 (some .boolean) 1 21 [.ref (ad 49), .int a1] σ (some (.int q)) σ := by
  refine xr_openZ [some (.ref (ad 49)), some (.int a1)] xm_X11_isAwake (Nat.le_of_ble_eq_true rfl) rfl (fun J B RR => ?_)
  unfold xf_X11_isAwake at hf
  refine xr_aload_n B dX11_isAwake_0 rfl rfl ?_
  refine xr_getR B xg_X11_7 xh_49 rfl dX11_isAwake_1 ?_
  refine xr_bipush B (v := 51) dX11_isAwake_4 (by decide) ?_
  refine xq_iald B xh_50 dX11_isAwake_6 hf (fun v1 hf => ?_)
  refine xr_iload_n B dX11_isAwake_7 rfl rfl ?_
  refine xr_cSi B (rest := []) [.int v1, .int a1] xm_X11_has xs_X11_215 (fun q hq => xc_X11_has l D ad ca σ v1 a1 q hq) rfl (by decide) rfl (Nat.le_of_ble_eq_true rfl) dX11_isAwake_8 hf (fun v2 hf => ?_)
  obtain ⟨hz, hf⟩ := xq_zb hf
  obtain rfl := Option.some.inj hf
  exact RR _ _ _ hz dX11_isAwake_11 rfl

noncomputable def xf_X11_wake (σ : xr_S) (a1 : Int32) (a2 : Int32) : Option (Int32 × xr_S) := (xf_X11_isSleeper σ a1).bind (fun v1 => if v1 = 0 then (some ((-1000000001), σ)) else ((xf_X11_isAwake σ a1).bind (fun v2 => xr_jn (fun (w3 : Int32) => xr_jn (fun (w5 : Int32) => xr_st σ 50 220 51 w5 (fun s7 => some (w3, s7))) (fun j6 => if a2 = 0 then (xr_ld σ 50 220 51 (fun v8 => j6 (v8 &&& (((1 : Int32) <<< (a1 &&& 31)) ^^^ (-1))))) else (xr_ld σ 50 220 51 (fun v9 => j6 (v9 ||| ((1 : Int32) <<< (a1 &&& 31))))))) (fun j4 => if v2 = 0 then (j4 0) else (j4 1)))))
set_option maxRecDepth 100000 in
set_option maxHeartbeats 4000000 in
theorem xc_X11_wake (l : Launch) (D : va_G) (ad : Nat → Nat) (ca : Nat → ClassId) (σ : xr_S) (a1 : Int32) (a2 : Int32) (q : (Int32 × xr_S)) (hf : xf_X11_wake σ a1 a2 = some q) : xr_M l D ad ca yX11_wake cX11_wake 4 (some .int) 2 46 [.ref (ad 49), .int a1, .int a2] σ (some (.int q.1)) q.2 := by
  refine xr_openI [some (.ref (ad 49)), some (.int a1), some (.int a2), none] xm_X11_wake (Nat.le_of_ble_eq_true rfl) rfl (fun J B RR => ?_)
  unfold xf_X11_wake at hf
  refine xr_aload_n B dX11_wake_0 rfl rfl ?_
  refine xr_iload_n B dX11_wake_1 rfl rfl ?_
  refine xr_cVi B (rest := []) [.int a1] xm_X11_isSleeper xv_X11_186 (fun q hq => xc_X11_isSleeper l D ad ca σ a1 q hq) xh_49 rfl rfl (by decide) rfl (Nat.le_of_ble_eq_true rfl) dX11_wake_2 hf (fun v1 hf => ?_)
  refine xr_if_ne B (tgt := 11) dX11_wake_5 (by decide) hf (fun _ hf => ?_) (fun _ hf => ?_)
  · refine xr_ldc B xk_X11_192 dX11_wake_8 ?_
    obtain rfl := Option.some.inj hf
    exact RR _ _ _ dX11_wake_10 rfl
  · refine xr_aload_n B dX11_wake_11 rfl rfl ?_
    refine xr_iload_n B dX11_wake_12 rfl rfl ?_
    refine xr_cVi B (rest := []) [.int a1] xm_X11_isAwake xv_X11_218 (fun q hq => xc_X11_isAwake l D ad ca σ a1 q hq) xh_49 rfl rfl (by decide) rfl (Nat.le_of_ble_eq_true rfl) dX11_wake_13 hf (fun v2 hf => ?_)
    refine xr_meet (fun (w3 : Int32) => J 24 [some (.ref (ad 49)), some (.int a1), some (.int a2), none] [.int w3] σ) hf (fun w3 hf => ?_) (fun j4 hj4 hf => ?_)
    · refine xr_istore_n B (lv2 := [some (.ref (ad 49)), some (.int a1), some (.int a2), some (.int w3)]) dX11_wake_24 rfl (by decide) rfl ?_
      refine xr_aload_n B dX11_wake_25 rfl rfl ?_
      refine xr_getR B xg_X11_7 xh_49 rfl dX11_wake_26 ?_
      refine xr_bipush B (v := 51) dX11_wake_29 (by decide) ?_
      refine xr_iload_n B dX11_wake_31 rfl rfl ?_
      refine xr_meet (fun (w5 : Int32) => J 62 [none, none, none, some (.int w3)] [.int w5, .int 51, .ref (ad 50)] σ) hf (fun w5 hf => ?_) (fun j6 hj6 hf => ?_)
      · refine xq_iast B xh_50 dX11_wake_62 hf (fun s7 hf => ?_)
        refine xr_iload_n B dX11_wake_63 rfl rfl ?_
        obtain rfl := Option.some.inj hf
        exact RR _ _ _ dX11_wake_64 rfl
      · refine xr_if_eq B (tgt := 49) dX11_wake_32 (by decide) hf (fun _ hf => ?_) (fun _ hf => ?_)
        · refine xr_aload_n B dX11_wake_49 rfl rfl ?_
          refine xr_getR B xg_X11_7 xh_49 rfl dX11_wake_50 ?_
          refine xr_bipush B (v := 51) dX11_wake_53 (by decide) ?_
          refine xq_iald B xh_50 dX11_wake_55 hf (fun v8 hf => ?_)
          refine xr_iconst B (v := 1) dX11_wake_56 (by decide) ?_
          refine xr_iload_n B dX11_wake_57 rfl rfl ?_
          refine xr_ishl B dX11_wake_58 ?_
          refine xr_iconst B (v := (-1)) dX11_wake_59 (by decide) ?_
          refine xr_ixor B dX11_wake_60 ?_
          refine xr_iand B dX11_wake_61 ?_
          refine xr_forget B (lv2 := [none, none, none, some (.int w3)]) ⟨rfl, trivial⟩ ?_
          exact hj6 (v8 &&& (((1 : Int32) <<< (a1 &&& 31)) ^^^ (-1))) hf
        · refine xr_aload_n B dX11_wake_35 rfl rfl ?_
          refine xr_getR B xg_X11_7 xh_49 rfl dX11_wake_36 ?_
          refine xr_bipush B (v := 51) dX11_wake_39 (by decide) ?_
          refine xq_iald B xh_50 dX11_wake_41 hf (fun v9 hf => ?_)
          refine xr_iconst B (v := 1) dX11_wake_42 (by decide) ?_
          refine xr_iload_n B dX11_wake_43 rfl rfl ?_
          refine xr_ishl B dX11_wake_44 ?_
          refine xr_ior B dX11_wake_45 ?_
          refine xr_goto B (tgt := 62) dX11_wake_46 (by decide) ?_
          refine xr_forget B (lv2 := [none, none, none, some (.int w3)]) ⟨rfl, trivial⟩ ?_
          exact hj6 (v9 ||| ((1 : Int32) <<< (a1 &&& 31))) hf
    · refine xr_if_eq B (tgt := 23) dX11_wake_16 (by decide) hf (fun _ hf => ?_) (fun _ hf => ?_)
      · refine xr_iconst B (v := 0) dX11_wake_23 (by decide) ?_
        exact hj4 0 hf
      · refine xr_iconst B (v := 1) dX11_wake_19 (by decide) ?_
        refine xr_goto B (tgt := 24) dX11_wake_20 (by decide) ?_
        exact hj4 1 hf

noncomputable def xf_X11_draw (σ : xr_S) (a1 : Int32) : Option (Int32 × xr_S) := xr_ld σ 50 220 54 (fun v1 => xr_st σ 50 220 54 (Int64.toInt32 ((((Int32.toInt64 v1) * 1103515245) + 12345) - (((Int32.toInt64 v1) * 1103515245) + 12345) / 2147483648 * 2147483648)) (fun s2 => xr_ld s2 50 220 54 (fun v3 => xr_nz a1 (some (((v3 / 65536) - (v3 / 65536) / a1 * a1), s2)))))
set_option maxRecDepth 100000 in
set_option maxHeartbeats 4000000 in
theorem xc_X11_draw (l : Launch) (D : va_G) (ad : Nat → Nat) (ca : Nat → ClassId) (σ : xr_S) (a1 : Int32) (q : (Int32 × xr_S)) (hf : xf_X11_draw σ a1 = some q) : xr_M l D ad ca yX11_draw cX11_draw 2 (some .int) 0 0 [.ref (ad 49), .int a1] σ (some (.int q.1)) q.2 := by
  refine xr_openI [some (.ref (ad 49)), some (.int a1)] xm_X11_draw (Nat.le_of_ble_eq_true rfl) rfl (fun J B RR => ?_)
  unfold xf_X11_draw at hf
  refine xr_aload_n B dX11_draw_0 rfl rfl ?_
  refine xr_getR B xg_X11_7 xh_49 rfl dX11_draw_1 ?_
  refine xr_bipush B (v := 54) dX11_draw_4 (by decide) ?_
  refine xr_aload_n B dX11_draw_6 rfl rfl ?_
  refine xr_getR B xg_X11_7 xh_49 rfl dX11_draw_7 ?_
  refine xr_bipush B (v := 54) dX11_draw_10 (by decide) ?_
  refine xq_iald B xh_50 dX11_draw_12 hf (fun v1 hf => ?_)
  refine xr_i2l B dX11_draw_13 ?_
  refine xr_ldc2 B xl_X11_221 dX11_draw_14 ?_
  refine xr_lmul B dX11_draw_17 ?_
  refine xr_ldc2 B xl_X11_223 dX11_draw_18 ?_
  refine xr_ladd B dX11_draw_21 ?_
  refine xr_ldc2 B xl_X11_225 dX11_draw_22 ?_
  refine xr_lremK B dX11_draw_25 (by decide) ?_
  refine xr_l2i B dX11_draw_26 ?_
  refine xq_iast B xh_50 dX11_draw_27 hf (fun s2 hf => ?_)
  refine xr_aload_n B dX11_draw_28 rfl rfl ?_
  refine xr_getR B xg_X11_7 xh_49 rfl dX11_draw_29 ?_
  refine xr_bipush B (v := 54) dX11_draw_32 (by decide) ?_
  refine xq_iald B xh_50 dX11_draw_34 hf (fun v3 hf => ?_)
  refine xr_ldc B xk_X11_227 dX11_draw_35 ?_
  refine xr_idivK B dX11_draw_37 (by decide) ?_
  refine xr_iload_n B dX11_draw_38 rfl rfl ?_
  refine xr_irem B dX11_draw_39 hf (fun hf => ?_)
  obtain rfl := Option.some.inj hf
  exact RR _ _ _ dX11_draw_40 rfl

noncomputable def xf_X11_dreamsNow_L13 (p2 : (Int32 × xr_S)) (a1 : Int32) (K6 : Int32 → Option xr_S) (t3 : (Int32 × Int32)) (rec4 : (Int32 × Int32) → Option xr_S) : Option xr_S := (xf_X11_weightOf p2.2 0 a1 t3.2).bind (fun v7 => if t3.1 < v7 then (K6 t3.2) else ((xf_X11_weightOf p2.2 0 a1 t3.2).bind (fun v8 => xr_v ((t3.1 - v8)) (fun v9 => rec4 (v9, (t3.2 + 1))))))
noncomputable def xf_X11_dreamsNow (σ : xr_S) (a1 : Int32) : Option xr_S := (xf_X11_allOf σ 0 a1).bind (fun v1 => (xf_X11_draw σ v1).bind (fun p2 => xr_lw (xf_X11_dreamsNow_L13 p2 a1 (fun (e5 : Int32) => (xf_X11_onPillow p2.2 a1).bind (fun v11 => if v11 = (-1) then (some p2.2) else (xr_st p2.2 50 220 (37 + v11) e5 (fun s12 => xr_st s12 50 220 (30 + v11) (-1) (fun s13 => some s13)))))) (p2.1, 0)))
set_option maxRecDepth 100000 in
set_option maxHeartbeats 4000000 in
theorem xc_X11_dreamsNow (l : Launch) (D : va_G) (ad : Nat → Nat) (ca : Nat → ClassId) (σ : xr_S) (a1 : Int32) (q : xr_S) (hf : xf_X11_dreamsNow σ a1 = some q) : xr_M l D ad ca yX11_dreamsNow cX11_dreamsNow 5 none 2 47 [.ref (ad 49), .int a1] σ none q := by
  refine xr_openV [some (.ref (ad 49)), some (.int a1), none, none, none] xm_X11_dreamsNow (Nat.le_of_ble_eq_true rfl) rfl (fun J B RR => ?_)
  unfold xf_X11_dreamsNow at hf
  refine xr_aload_n B dX11_dreamsNow_0 rfl rfl ?_
  refine xr_aload_n B dX11_dreamsNow_1 rfl rfl ?_
  refine xr_iconst B (v := 0) dX11_dreamsNow_2 (by decide) ?_
  refine xr_iload_n B dX11_dreamsNow_3 rfl rfl ?_
  refine xr_cVi B (rest := [.ref (ad 49)]) [.int 0, .int a1] xm_X11_allOf xv_X11_193 (fun q hq => xc_X11_allOf l D ad ca σ 0 a1 q hq) xh_49 rfl rfl (by decide) rfl (Nat.le_of_ble_eq_true rfl) dX11_dreamsNow_4 hf (fun v1 hf => ?_)
  refine xr_cVI B (rest := []) [.int v1] xm_X11_draw xv_X11_228 (fun q hq => xc_X11_draw l D ad ca σ v1 q hq) xh_49 rfl rfl (by decide) rfl (Nat.le_of_ble_eq_true rfl) dX11_dreamsNow_7 hf (fun p2 hf => ?_)
  refine xr_istore_n B (lv2 := [some (.ref (ad 49)), some (.int a1), some (.int p2.1), none, none]) dX11_dreamsNow_10 rfl (by decide) rfl ?_
  refine xr_iconst B (v := 0) dX11_dreamsNow_11 (by decide) ?_
  refine xr_istore_n B (lv2 := [some (.ref (ad 49)), some (.int a1), some (.int p2.1), some (.int 0), none]) dX11_dreamsNow_12 rfl (by decide) rfl ?_
  refine xq_loop (fun (t3 : (Int32 × Int32)) => J 13 [some (.ref (ad 49)), some (.int a1), some (.int t3.1), some (.int t3.2), none] [] p2.2) (fun (e5 : Int32) => J 40 [some (.ref (ad 49)), some (.int a1), none, some (.int e5), none] [] p2.2) hf (fun e5 hf => ?_) (fun K6 hK6 t3 rec4 hrec4 hf => ?_)
  · refine xr_aload_n B dX11_dreamsNow_40 rfl rfl ?_
    refine xr_iload_n B dX11_dreamsNow_41 rfl rfl ?_
    refine xr_cVi B (rest := []) [.int a1] xm_X11_onPillow xv_X11_212 (fun q hq => xc_X11_onPillow l D ad ca p2.2 a1 q hq) xh_49 rfl rfl (by decide) rfl (Nat.le_of_ble_eq_true rfl) dX11_dreamsNow_42 hf (fun v11 hf => ?_)
    refine xr_istore B (lv2 := [some (.ref (ad 49)), some (.int a1), none, some (.int e5), some (.int v11)]) dX11_dreamsNow_45 (by decide) rfl ?_
    refine xr_iload B dX11_dreamsNow_47 rfl ?_
    refine xr_iconst B (v := (-1)) dX11_dreamsNow_49 (by decide) ?_
    refine xr_ic_eq B (tgt := 75) dX11_dreamsNow_50 (by decide) hf (fun _ hf => ?_) (fun _ hf => ?_)
    · obtain rfl := Option.some.inj hf
      exact RR _ _ dX11_dreamsNow_75 rfl
    · refine xr_aload_n B dX11_dreamsNow_53 rfl rfl ?_
      refine xr_getR B xg_X11_7 xh_49 rfl dX11_dreamsNow_54 ?_
      refine xr_bipush B (v := 37) dX11_dreamsNow_57 (by decide) ?_
      refine xr_iload B dX11_dreamsNow_59 rfl ?_
      refine xr_iadd B dX11_dreamsNow_61 ?_
      refine xr_iload_n B dX11_dreamsNow_62 rfl rfl ?_
      refine xq_iast B xh_50 dX11_dreamsNow_63 hf (fun s12 hf => ?_)
      refine xr_aload_n B dX11_dreamsNow_64 rfl rfl ?_
      refine xr_getR B xg_X11_7 xh_49 rfl dX11_dreamsNow_65 ?_
      refine xr_bipush B (v := 30) dX11_dreamsNow_68 (by decide) ?_
      refine xr_iload B dX11_dreamsNow_70 rfl ?_
      refine xr_iadd B dX11_dreamsNow_72 ?_
      refine xr_iconst B (v := (-1)) dX11_dreamsNow_73 (by decide) ?_
      refine xq_iast B xh_50 dX11_dreamsNow_74 hf (fun s13 hf => ?_)
      obtain rfl := Option.some.inj hf
      exact RR _ _ dX11_dreamsNow_75 rfl
  · have hrec4 : ∀ (b1 : Int32) (b2 : Int32), rec4 (b1, b2) = some q → J 13 [some (.ref (ad 49)), some (.int a1), some (.int b1), some (.int b2), none] [] p2.2 := fun b1 b2 h => hrec4 (b1, b2) h
    unfold xf_X11_dreamsNow_L13 at hf
    refine xr_iload_n B dX11_dreamsNow_13 rfl rfl ?_
    refine xr_aload_n B dX11_dreamsNow_14 rfl rfl ?_
    refine xr_iconst B (v := 0) dX11_dreamsNow_15 (by decide) ?_
    refine xr_iload_n B dX11_dreamsNow_16 rfl rfl ?_
    refine xr_iload_n B dX11_dreamsNow_17 rfl rfl ?_
    refine xr_cVi B (rest := [.int t3.1]) [.int 0, .int a1, .int t3.2] xm_X11_weightOf xv_X11_182 (fun q hq => xc_X11_weightOf l D ad ca p2.2 0 a1 t3.2 q hq) xh_49 rfl rfl (by decide) rfl (Nat.le_of_ble_eq_true rfl) dX11_dreamsNow_18 hf (fun v7 hf => ?_)
    refine xr_ic_lt B (tgt := 40) dX11_dreamsNow_21 (by decide) hf (fun _ hf => ?_) (fun _ hf => ?_)
    · refine xr_forget B (lv2 := [some (.ref (ad 49)), some (.int a1), none, some (.int t3.2), none]) ⟨rfl, ⟨rfl, ⟨rfl, trivial⟩⟩⟩ ?_
      exact hK6 t3.2 hf
    · refine xr_iload_n B dX11_dreamsNow_24 rfl rfl ?_
      refine xr_aload_n B dX11_dreamsNow_25 rfl rfl ?_
      refine xr_iconst B (v := 0) dX11_dreamsNow_26 (by decide) ?_
      refine xr_iload_n B dX11_dreamsNow_27 rfl rfl ?_
      refine xr_iload_n B dX11_dreamsNow_28 rfl rfl ?_
      refine xr_cVi B (rest := [.int t3.1]) [.int 0, .int a1, .int t3.2] xm_X11_weightOf xv_X11_182 (fun q hq => xc_X11_weightOf l D ad ca p2.2 0 a1 t3.2 q hq) xh_49 rfl rfl (by decide) rfl (Nat.le_of_ble_eq_true rfl) dX11_dreamsNow_29 hf (fun v8 hf => ?_)
      refine xr_isub B dX11_dreamsNow_32 ?_
      refine xr_top _ hf (fun v9 hf => ?_)
      refine xr_istore_n B (lv2 := [some (.ref (ad 49)), some (.int a1), some (.int v9), some (.int t3.2), none]) dX11_dreamsNow_33 rfl (by decide) rfl ?_
      refine xr_iinc B (v := (t3.2 + 1)) (lv2 := [some (.ref (ad 49)), some (.int a1), some (.int v9), some (.int (t3.2 + 1)), none]) dX11_dreamsNow_34 rfl (congrArg (t3.2 + ·) (by decide : Int32.ofInt (1) = 1)) (by decide) rfl ?_
      refine xr_goto B (tgt := 13) dX11_dreamsNow_37 (by decide) ?_
      exact hrec4 v9 (t3.2 + 1) hf

noncomputable def xf_X11_night_L49  (K10 : xr_S → Option (Int32 × xr_S)) (t7 : (Int32 × xr_S)) (rec8 : (Int32 × xr_S) → Option (Int32 × xr_S)) : Option (Int32 × xr_S) := if (t7.2.1 49 4) ≤ t7.1 then (K10 t7.2) else ((xf_X11_isAwake t7.2 t7.1).bind (fun v11 => xr_jn (fun (w12 : xr_S) => rec8 ((t7.1 + 1), w12)) (fun j13 => if v11 = 0 then ((xf_X11_dreamsNow t7.2 t7.1).bind (fun s15 => j13 s15)) else (j13 t7.2))))
noncomputable def xf_X11_night_L42 (a1 : Int32) (K6 : xr_S → Option (Int32 × xr_S)) (t3 : (Int32 × xr_S)) (rec4 : (Int32 × xr_S) → Option (Int32 × xr_S)) : Option (Int32 × xr_S) := if a1 ≤ t3.1 then (K6 t3.2) else (xr_lw (xf_X11_night_L49 (fun (e9 : xr_S) => xr_ld e9 50 220 52 (fun v16 => xr_st e9 50 220 52 (v16 + 1) (fun s17 => rec4 ((t3.1 + 1), s17))))) (0, t3.2))
noncomputable def xf_X11_night (σ : xr_S) (a1 : Int32) : Option (Int32 × xr_S) := (xf_X11_in σ (Int32.toInt64 a1) 1 30).bind (fun v1 => if v1 = 0 then (some ((-1000000002), σ)) else (if (σ.1 49 2) = 0 then (some ((-1000000003), σ)) else (xr_ld σ 50 220 52 (fun v2 => if v2 ≤ 90000 then (xr_lw (xf_X11_night_L42 a1 (fun (e5 : xr_S) => (xf_X11_loavesBy e5 10).bind (fun v19 => some (v19, e5)))) (0, σ)) else (some ((-1000000004), σ))))))
set_option maxRecDepth 100000 in
set_option maxHeartbeats 4000000 in
theorem xc_X11_night (l : Launch) (D : va_G) (ad : Nat → Nat) (ca : Nat → ClassId) (σ : xr_S) (a1 : Int32) (q : (Int32 × xr_S)) (hf : xf_X11_night σ a1 = some q) : xr_M l D ad ca yX11_night cX11_night 4 (some .int) 3 71 [.ref (ad 49), .int a1] σ (some (.int q.1)) q.2 := by
  refine xr_openI [some (.ref (ad 49)), some (.int a1), none, none] xm_X11_night (Nat.le_of_ble_eq_true rfl) rfl (fun J B RR => ?_)
  unfold xf_X11_night at hf
  refine xr_iload_n B dX11_night_0 rfl rfl ?_
  refine xr_i2l B dX11_night_1 ?_
  refine xr_lconst B (v := 1) dX11_night_2 (by decide) ?_
  refine xr_ldc2 B xl_X11_231 dX11_night_3 ?_
  refine xr_cSi B (rest := []) [.long (Int32.toInt64 a1), .long 1, .long 30] xm_X11_in xs_X11_76 (fun q hq => xc_X11_in l D ad ca σ (Int32.toInt64 a1) 1 30 q hq) rfl (by decide) rfl (Nat.le_of_ble_eq_true rfl) dX11_night_6 hf (fun v1 hf => ?_)
  refine xr_if_ne B (tgt := 15) dX11_night_9 (by decide) hf (fun _ hf => ?_) (fun _ hf => ?_)
  · refine xr_ldc B xk_X11_88 dX11_night_12 ?_
    obtain rfl := Option.some.inj hf
    exact RR _ _ _ dX11_night_14 rfl
  · refine xr_aload_n B dX11_night_15 rfl rfl ?_
    refine xr_getI B xg_X11_80 xh_49 rfl dX11_night_16 ?_
    refine xr_if_ne B (tgt := 25) dX11_night_19 (by decide) hf (fun _ hf => ?_) (fun _ hf => ?_)
    · refine xr_ldc B xk_X11_205 dX11_night_22 ?_
      obtain rfl := Option.some.inj hf
      exact RR _ _ _ dX11_night_24 rfl
    · refine xr_aload_n B dX11_night_25 rfl rfl ?_
      refine xr_getR B xg_X11_7 xh_49 rfl dX11_night_26 ?_
      refine xr_bipush B (v := 52) dX11_night_29 (by decide) ?_
      refine xq_iald B xh_50 dX11_night_31 hf (fun v2 hf => ?_)
      refine xr_ldc B xk_X11_233 dX11_night_32 ?_
      refine xr_ic_le B (tgt := 40) dX11_night_34 (by decide) hf (fun _ hf => ?_) (fun _ hf => ?_)
      · refine xr_iconst B (v := 0) dX11_night_40 (by decide) ?_
        refine xr_istore_n B (lv2 := [some (.ref (ad 49)), some (.int a1), some (.int 0), none]) dX11_night_41 rfl (by decide) rfl ?_
        refine xq_loop (fun (t3 : (Int32 × xr_S)) => J 42 [some (.ref (ad 49)), some (.int a1), some (.int t3.1), none] [] t3.2) (fun (e5 : xr_S) => J 93 [some (.ref (ad 49)), none, none, none] [] e5) hf (fun e5 hf => ?_) (fun K6 hK6 t3 rec4 hrec4 hf => ?_)
        · refine xr_aload_n B dX11_night_93 rfl rfl ?_
          refine xr_bipush B (v := 10) dX11_night_94 (by decide) ?_
          refine xr_cVi B (rest := []) [.int 10] xm_X11_loavesBy xv_X11_179 (fun q hq => xc_X11_loavesBy l D ad ca e5 10 q hq) xh_49 rfl rfl (by decide) rfl (Nat.le_of_ble_eq_true rfl) dX11_night_96 hf (fun v19 hf => ?_)
          obtain rfl := Option.some.inj hf
          exact RR _ _ _ dX11_night_99 rfl
        · have hrec4 : ∀ (b1 : Int32) (b2 : xr_S), rec4 (b1, b2) = some q → J 42 [some (.ref (ad 49)), some (.int a1), some (.int b1), none] [] b2 := fun b1 b2 h => hrec4 (b1, b2) h
          unfold xf_X11_night_L42 at hf
          refine xr_iload_n B dX11_night_42 rfl rfl ?_
          refine xr_iload_n B dX11_night_43 rfl rfl ?_
          refine xr_ic_ge B (tgt := 93) dX11_night_44 (by decide) hf (fun _ hf => ?_) (fun _ hf => ?_)
          · refine xr_forget B (lv2 := [some (.ref (ad 49)), none, none, none]) ⟨rfl, trivial⟩ ?_
            exact hK6 t3.2 hf
          · refine xr_iconst B (v := 0) dX11_night_47 (by decide) ?_
            refine xr_istore_n B (lv2 := [some (.ref (ad 49)), some (.int a1), some (.int t3.1), some (.int 0)]) dX11_night_48 rfl (by decide) rfl ?_
            refine xq_loop (fun (t7 : (Int32 × xr_S)) => J 49 [some (.ref (ad 49)), some (.int a1), some (.int t3.1), some (.int t7.1)] [] t7.2) (fun (e9 : xr_S) => J 76 [some (.ref (ad 49)), some (.int a1), some (.int t3.1), none] [] e9) hf (fun e9 hf => ?_) (fun K10 hK10 t7 rec8 hrec8 hf => ?_)
            · refine xr_aload_n B dX11_night_76 rfl rfl ?_
              refine xr_getR B xg_X11_7 xh_49 rfl dX11_night_77 ?_
              refine xr_bipush B (v := 52) dX11_night_80 (by decide) ?_
              refine xr_dup2 B dX11_night_82 rfl rfl ?_
              refine xq_iald B xh_50 dX11_night_83 hf (fun v16 hf => ?_)
              refine xr_iconst B (v := 1) dX11_night_84 (by decide) ?_
              refine xr_iadd B dX11_night_85 ?_
              refine xq_iast B xh_50 dX11_night_86 hf (fun s17 hf => ?_)
              refine xr_iinc B (v := (t3.1 + 1)) (lv2 := [some (.ref (ad 49)), some (.int a1), some (.int (t3.1 + 1)), none]) dX11_night_87 rfl (congrArg (t3.1 + ·) (by decide : Int32.ofInt (1) = 1)) (by decide) rfl ?_
              refine xr_goto B (tgt := 42) dX11_night_90 (by decide) ?_
              exact hrec4 (t3.1 + 1) s17 hf
            · have hrec8 : ∀ (b1 : Int32) (b2 : xr_S), rec8 (b1, b2) = some q → J 49 [some (.ref (ad 49)), some (.int a1), some (.int t3.1), some (.int b1)] [] b2 := fun b1 b2 h => hrec8 (b1, b2) h
              unfold xf_X11_night_L49 at hf
              refine xr_iload_n B dX11_night_49 rfl rfl ?_
              refine xr_aload_n B dX11_night_50 rfl rfl ?_
              refine xr_getI B xg_X11_73 xh_49 rfl dX11_night_51 ?_
              refine xr_ic_ge B (tgt := 76) dX11_night_54 (by decide) hf (fun _ hf => ?_) (fun _ hf => ?_)
              · refine xr_forget B (lv2 := [some (.ref (ad 49)), some (.int a1), some (.int t3.1), none]) ⟨rfl, ⟨rfl, ⟨rfl, trivial⟩⟩⟩ ?_
                exact hK10 t7.2 hf
              · refine xr_aload_n B dX11_night_57 rfl rfl ?_
                refine xr_iload_n B dX11_night_58 rfl rfl ?_
                refine xr_cVi B (rest := []) [.int t7.1] xm_X11_isAwake xv_X11_218 (fun q hq => xc_X11_isAwake l D ad ca t7.2 t7.1 q hq) xh_49 rfl rfl (by decide) rfl (Nat.le_of_ble_eq_true rfl) dX11_night_59 hf (fun v11 hf => ?_)
                refine xr_meet (fun (w12 : xr_S) => J 70 [some (.ref (ad 49)), some (.int a1), some (.int t3.1), some (.int t7.1)] [] w12) hf (fun w12 hf => ?_) (fun j13 hj13 hf => ?_)
                · refine xr_iinc B (v := (t7.1 + 1)) (lv2 := [some (.ref (ad 49)), some (.int a1), some (.int t3.1), some (.int (t7.1 + 1))]) dX11_night_70 rfl (congrArg (t7.1 + ·) (by decide : Int32.ofInt (1) = 1)) (by decide) rfl ?_
                  refine xr_goto B (tgt := 49) dX11_night_73 (by decide) ?_
                  exact hrec8 (t7.1 + 1) w12 hf
                · refine xr_if_ne B (tgt := 70) dX11_night_62 (by decide) hf (fun _ hf => ?_) (fun _ hf => ?_)
                  · refine xr_aload_n B dX11_night_65 rfl rfl ?_
                    refine xr_iload_n B dX11_night_66 rfl rfl ?_
                    refine xr_cVv B (rest := []) [.int t7.1] xm_X11_dreamsNow xv_X11_234 (fun q hq => xc_X11_dreamsNow l D ad ca t7.2 t7.1 q hq) xh_49 rfl rfl (by decide) rfl (Nat.le_of_ble_eq_true rfl) dX11_night_67 hf (fun s15 hf => ?_)
                    exact hj13 s15 hf
                  · exact hj13 t7.2 hf
      · refine xr_ldc B xk_X11_92 dX11_night_37 ?_
        obtain rfl := Option.some.inj hf
        exact RR _ _ _ dX11_night_39 rfl

noncomputable def xf_X11_grows (σ : xr_S) (a1 : Int32) (a2 : Int32) (a3 : Int32) : Option xr_S := (xf_X11_weightOf σ a1 a2 a3).bind (fun v1 => xr_v ((v1 + (σ.1 49 3))) (fun v2 => xr_jn (fun (w3 : Int32) => xr_st σ 50 220 (((a1 + 0) + (5 * a2)) + a3) w3 (fun s5 => some s5)) (fun j4 => if v2 ≤ 9 then (j4 v2) else (j4 9))))
set_option maxRecDepth 100000 in
set_option maxHeartbeats 4000000 in
theorem xc_X11_grows (l : Launch) (D : va_G) (ad : Nat → Nat) (ca : Nat → ClassId) (σ : xr_S) (a1 : Int32) (a2 : Int32) (a3 : Int32) (q : xr_S) (hf : xf_X11_grows σ a1 a2 a3 = some q) : xr_M l D ad ca yX11_grows cX11_grows 5 none 1 23 [.ref (ad 49), .int a1, .int a2, .int a3] σ none q := by
  refine xr_openV [some (.ref (ad 49)), some (.int a1), some (.int a2), some (.int a3), none] xm_X11_grows (Nat.le_of_ble_eq_true rfl) rfl (fun J B RR => ?_)
  unfold xf_X11_grows at hf
  refine xr_aload_n B dX11_grows_0 rfl rfl ?_
  refine xr_iload_n B dX11_grows_1 rfl rfl ?_
  refine xr_iload_n B dX11_grows_2 rfl rfl ?_
  refine xr_iload_n B dX11_grows_3 rfl rfl ?_
  refine xr_cVi B (rest := []) [.int a1, .int a2, .int a3] xm_X11_weightOf xv_X11_182 (fun q hq => xc_X11_weightOf l D ad ca σ a1 a2 a3 q hq) xh_49 rfl rfl (by decide) rfl (Nat.le_of_ble_eq_true rfl) dX11_grows_4 hf (fun v1 hf => ?_)
  refine xr_aload_n B dX11_grows_7 rfl rfl ?_
  refine xr_getI B xg_X11_163 xh_49 rfl dX11_grows_8 ?_
  refine xr_iadd B dX11_grows_11 ?_
  refine xr_top _ hf (fun v2 hf => ?_)
  refine xr_istore B (lv2 := [some (.ref (ad 49)), some (.int a1), some (.int a2), some (.int a3), some (.int v2)]) dX11_grows_12 (by decide) rfl ?_
  refine xr_aload_n B dX11_grows_14 rfl rfl ?_
  refine xr_getR B xg_X11_7 xh_49 rfl dX11_grows_15 ?_
  refine xr_iload_n B dX11_grows_18 rfl rfl ?_
  refine xr_iconst B (v := 0) dX11_grows_19 (by decide) ?_
  refine xr_iadd B dX11_grows_20 ?_
  refine xr_iconst B (v := 5) dX11_grows_21 (by decide) ?_
  refine xr_iload_n B dX11_grows_22 rfl rfl ?_
  refine xr_imul B dX11_grows_23 ?_
  refine xr_iadd B dX11_grows_24 ?_
  refine xr_iload_n B dX11_grows_25 rfl rfl ?_
  refine xr_iadd B dX11_grows_26 ?_
  refine xr_iload B dX11_grows_27 rfl ?_
  refine xr_bipush B (v := 9) dX11_grows_29 (by decide) ?_
  refine xr_meet (fun (w3 : Int32) => J 41 [none, none, none, none, none] [.int w3, .int (((a1 + 0) + (5 * a2)) + a3), .ref (ad 50)] σ) hf (fun w3 hf => ?_) (fun j4 hj4 hf => ?_)
  · refine xq_iast B xh_50 dX11_grows_41 hf (fun s5 hf => ?_)
    obtain rfl := Option.some.inj hf
    exact RR _ _ dX11_grows_42 rfl
  · refine xr_ic_le B (tgt := 39) dX11_grows_31 (by decide) hf (fun _ hf => ?_) (fun _ hf => ?_)
    · refine xr_iload B dX11_grows_39 rfl ?_
      refine xr_forget B (lv2 := [none, none, none, none, none]) trivial ?_
      exact hj4 v2 hf
    · refine xr_bipush B (v := 9) dX11_grows_34 (by decide) ?_
      refine xr_goto B (tgt := 41) dX11_grows_36 (by decide) ?_
      refine xr_forget B (lv2 := [none, none, none, none, none]) trivial ?_
      exact hj4 9 hf

noncomputable def xf_X11_eat (σ : xr_S) (a1 : Int32) : Option (Int32 × xr_S) := (xf_X11_isLoaf σ a1).bind (fun v1 => if v1 = 0 then (some ((-1000000001), σ)) else ((xf_X11_isFresh σ a1).bind (fun v2 => if v2 = 0 then (xr_ld σ 50 220 (37 + a1) (fun v3 => xr_ld σ 50 220 (44 + a1) (fun v4 => xr_jn (fun (w5 : xr_S) => xr_ld w5 50 220 53 (fun v7 => xr_ld w5 53 7 a1 (fun v8 => xr_jn (fun (w9 : Int32) => xr_v ((v7 + w9)) (fun v11 => xr_jn (fun (w12 : Int32) => xr_st w5 50 220 53 w12 (fun s14 => xr_st s14 50 220 (37 + a1) (-1) (fun s15 => xr_st s15 50 220 (44 + a1) 0 (fun s16 => xr_ld s16 50 220 53 (fun v17 => some (v17, s16)))))) (fun j13 => if v11 ≤ 999999 then (j13 v11) else (j13 999999)))) (fun j10 => if v3 = v8 then (xr_ld w5 54 7 a1 (fun v18 => j10 v18)) else (j10 0))))) (fun j6 => if v4 = 0 then (xr_ld σ 52 7 a1 (fun v19 => (xf_X11_grows σ 0 v19 v3).bind (fun s20 => j6 s20))) else (j6 σ))))) else (some ((-1000000003), σ)))))
set_option maxRecDepth 100000 in
set_option maxHeartbeats 4000000 in
theorem xc_X11_eat (l : Launch) (D : va_G) (ad : Nat → Nat) (ca : Nat → ClassId) (σ : xr_S) (a1 : Int32) (q : (Int32 × xr_S)) (hf : xf_X11_eat σ a1 = some q) : xr_M l D ad ca yX11_eat cX11_eat 4 (some .int) 2 47 [.ref (ad 49), .int a1] σ (some (.int q.1)) q.2 := by
  refine xr_openI [some (.ref (ad 49)), some (.int a1), none, none] xm_X11_eat (Nat.le_of_ble_eq_true rfl) rfl (fun J B RR => ?_)
  unfold xf_X11_eat at hf
  refine xr_aload_n B dX11_eat_0 rfl rfl ?_
  refine xr_iload_n B dX11_eat_1 rfl rfl ?_
  refine xr_cVi B (rest := []) [.int a1] xm_X11_isLoaf xv_X11_200 (fun q hq => xc_X11_isLoaf l D ad ca σ a1 q hq) xh_49 rfl rfl (by decide) rfl (Nat.le_of_ble_eq_true rfl) dX11_eat_2 hf (fun v1 hf => ?_)
  refine xr_if_ne B (tgt := 11) dX11_eat_5 (by decide) hf (fun _ hf => ?_) (fun _ hf => ?_)
  · refine xr_ldc B xk_X11_192 dX11_eat_8 ?_
    obtain rfl := Option.some.inj hf
    exact RR _ _ _ dX11_eat_10 rfl
  · refine xr_aload_n B dX11_eat_11 rfl rfl ?_
    refine xr_iload_n B dX11_eat_12 rfl rfl ?_
    refine xr_cVi B (rest := []) [.int a1] xm_X11_isFresh xv_X11_209 (fun q hq => xc_X11_isFresh l D ad ca σ a1 q hq) xh_49 rfl rfl (by decide) rfl (Nat.le_of_ble_eq_true rfl) dX11_eat_13 hf (fun v2 hf => ?_)
    refine xr_if_eq B (tgt := 22) dX11_eat_16 (by decide) hf (fun _ hf => ?_) (fun _ hf => ?_)
    · refine xr_aload_n B dX11_eat_22 rfl rfl ?_
      refine xr_getR B xg_X11_7 xh_49 rfl dX11_eat_23 ?_
      refine xr_bipush B (v := 37) dX11_eat_26 (by decide) ?_
      refine xr_iload_n B dX11_eat_28 rfl rfl ?_
      refine xr_iadd B dX11_eat_29 ?_
      refine xq_iald B xh_50 dX11_eat_30 hf (fun v3 hf => ?_)
      refine xr_istore_n B (lv2 := [some (.ref (ad 49)), some (.int a1), some (.int v3), none]) dX11_eat_31 rfl (by decide) rfl ?_
      refine xr_aload_n B dX11_eat_32 rfl rfl ?_
      refine xr_getR B xg_X11_7 xh_49 rfl dX11_eat_33 ?_
      refine xr_bipush B (v := 44) dX11_eat_36 (by decide) ?_
      refine xr_iload_n B dX11_eat_38 rfl rfl ?_
      refine xr_iadd B dX11_eat_39 ?_
      refine xq_iald B xh_50 dX11_eat_40 hf (fun v4 hf => ?_)
      refine xr_meet (fun (w5 : xr_S) => J 56 [some (.ref (ad 49)), some (.int a1), some (.int v3), none] [] w5) hf (fun w5 hf => ?_) (fun j6 hj6 hf => ?_)
      · refine xr_aload_n B dX11_eat_56 rfl rfl ?_
        refine xr_getR B xg_X11_7 xh_49 rfl dX11_eat_57 ?_
        refine xr_bipush B (v := 53) dX11_eat_60 (by decide) ?_
        refine xq_iald B xh_50 dX11_eat_62 hf (fun v7 hf => ?_)
        refine xr_iload_n B dX11_eat_63 rfl rfl ?_
        refine xr_aload_n B dX11_eat_64 rfl rfl ?_
        refine xr_getR B xg_X11_20 xh_49 rfl dX11_eat_65 ?_
        refine xr_iload_n B dX11_eat_68 rfl rfl ?_
        refine xq_iald B xh_53 dX11_eat_69 hf (fun v8 hf => ?_)
        refine xr_meet (fun (w9 : Int32) => J 83 [some (.ref (ad 49)), some (.int a1), none, none] [.int w9, .int v7] w5) hf (fun w9 hf => ?_) (fun j10 hj10 hf => ?_)
        · refine xr_iadd B dX11_eat_83 ?_
          refine xr_top _ hf (fun v11 hf => ?_)
          refine xr_istore_n B (lv2 := [some (.ref (ad 49)), some (.int a1), none, some (.int v11)]) dX11_eat_84 rfl (by decide) rfl ?_
          refine xr_aload_n B dX11_eat_85 rfl rfl ?_
          refine xr_getR B xg_X11_7 xh_49 rfl dX11_eat_86 ?_
          refine xr_bipush B (v := 53) dX11_eat_89 (by decide) ?_
          refine xr_iload_n B dX11_eat_91 rfl rfl ?_
          refine xr_ldc B xk_X11_242 dX11_eat_92 ?_
          refine xr_meet (fun (w12 : Int32) => J 103 [some (.ref (ad 49)), some (.int a1), none, none] [.int w12, .int 53, .ref (ad 50)] w5) hf (fun w12 hf => ?_) (fun j13 hj13 hf => ?_)
          · refine xq_iast B xh_50 dX11_eat_103 hf (fun s14 hf => ?_)
            refine xr_aload_n B dX11_eat_104 rfl rfl ?_
            refine xr_getR B xg_X11_7 xh_49 rfl dX11_eat_105 ?_
            refine xr_bipush B (v := 37) dX11_eat_108 (by decide) ?_
            refine xr_iload_n B dX11_eat_110 rfl rfl ?_
            refine xr_iadd B dX11_eat_111 ?_
            refine xr_iconst B (v := (-1)) dX11_eat_112 (by decide) ?_
            refine xq_iast B xh_50 dX11_eat_113 hf (fun s15 hf => ?_)
            refine xr_aload_n B dX11_eat_114 rfl rfl ?_
            refine xr_getR B xg_X11_7 xh_49 rfl dX11_eat_115 ?_
            refine xr_bipush B (v := 44) dX11_eat_118 (by decide) ?_
            refine xr_iload_n B dX11_eat_120 rfl rfl ?_
            refine xr_iadd B dX11_eat_121 ?_
            refine xr_iconst B (v := 0) dX11_eat_122 (by decide) ?_
            refine xq_iast B xh_50 dX11_eat_123 hf (fun s16 hf => ?_)
            refine xr_aload_n B dX11_eat_124 rfl rfl ?_
            refine xr_getR B xg_X11_7 xh_49 rfl dX11_eat_125 ?_
            refine xr_bipush B (v := 53) dX11_eat_128 (by decide) ?_
            refine xq_iald B xh_50 dX11_eat_130 hf (fun v17 hf => ?_)
            obtain rfl := Option.some.inj hf
            exact RR _ _ _ dX11_eat_131 rfl
          · refine xr_ic_le B (tgt := 102) dX11_eat_94 (by decide) hf (fun _ hf => ?_) (fun _ hf => ?_)
            · refine xr_iload_n B dX11_eat_102 rfl rfl ?_
              refine xr_forget B (lv2 := [some (.ref (ad 49)), some (.int a1), none, none]) ⟨rfl, ⟨rfl, trivial⟩⟩ ?_
              exact hj13 v11 hf
            · refine xr_ldc B xk_X11_242 dX11_eat_97 ?_
              refine xr_goto B (tgt := 103) dX11_eat_99 (by decide) ?_
              refine xr_forget B (lv2 := [some (.ref (ad 49)), some (.int a1), none, none]) ⟨rfl, ⟨rfl, trivial⟩⟩ ?_
              exact hj13 999999 hf
        · refine xr_ic_ne B (tgt := 82) dX11_eat_70 (by decide) hf (fun _ hf => ?_) (fun _ hf => ?_)
          · refine xr_aload_n B dX11_eat_73 rfl rfl ?_
            refine xr_getR B xg_X11_23 xh_49 rfl dX11_eat_74 ?_
            refine xr_iload_n B dX11_eat_77 rfl rfl ?_
            refine xq_iald B xh_54 dX11_eat_78 hf (fun v18 hf => ?_)
            refine xr_goto B (tgt := 83) dX11_eat_79 (by decide) ?_
            refine xr_forget B (lv2 := [some (.ref (ad 49)), some (.int a1), none, none]) ⟨rfl, ⟨rfl, trivial⟩⟩ ?_
            exact hj10 v18 hf
          · refine xr_iconst B (v := 0) dX11_eat_82 (by decide) ?_
            refine xr_forget B (lv2 := [some (.ref (ad 49)), some (.int a1), none, none]) ⟨rfl, ⟨rfl, trivial⟩⟩ ?_
            exact hj10 0 hf
      · refine xr_if_ne B (tgt := 56) dX11_eat_41 (by decide) hf (fun _ hf => ?_) (fun _ hf => ?_)
        · refine xr_aload_n B dX11_eat_44 rfl rfl ?_
          refine xr_iconst B (v := 0) dX11_eat_45 (by decide) ?_
          refine xr_aload_n B dX11_eat_46 rfl rfl ?_
          refine xr_getR B xg_X11_17 xh_49 rfl dX11_eat_47 ?_
          refine xr_iload_n B dX11_eat_50 rfl rfl ?_
          refine xq_iald B xh_52 dX11_eat_51 hf (fun v19 hf => ?_)
          refine xr_iload_n B dX11_eat_52 rfl rfl ?_
          refine xr_cVv B (rest := []) [.int 0, .int v19, .int v3] xm_X11_grows xv_X11_238 (fun q hq => xc_X11_grows l D ad ca σ 0 v19 v3 q hq) xh_49 rfl rfl (by decide) rfl (Nat.le_of_ble_eq_true rfl) dX11_eat_53 hf (fun s20 hf => ?_)
          exact hj6 s20 hf
        · exact hj6 σ hf
    · refine xr_ldc B xk_X11_205 dX11_eat_19 ?_
      obtain rfl := Option.some.inj hf
      exact RR _ _ _ dX11_eat_21 rfl

noncomputable def xf_X11_salt (σ : xr_S) (a1 : Int32) : Option (Int32 × xr_S) := (xf_X11_isLoaf σ a1).bind (fun v1 => if v1 = 0 then (some ((-1000000001), σ)) else (xr_ld σ 50 220 (44 + a1) (fun v2 => xr_st σ 50 220 (44 + a1) 1 (fun s3 => some (v2, s3)))))
set_option maxRecDepth 100000 in
set_option maxHeartbeats 4000000 in
theorem xc_X11_salt (l : Launch) (D : va_G) (ad : Nat → Nat) (ca : Nat → ClassId) (σ : xr_S) (a1 : Int32) (q : (Int32 × xr_S)) (hf : xf_X11_salt σ a1 = some q) : xr_M l D ad ca yX11_salt cX11_salt 3 (some .int) 2 46 [.ref (ad 49), .int a1] σ (some (.int q.1)) q.2 := by
  refine xr_openI [some (.ref (ad 49)), some (.int a1), none] xm_X11_salt (Nat.le_of_ble_eq_true rfl) rfl (fun J B RR => ?_)
  unfold xf_X11_salt at hf
  refine xr_aload_n B dX11_salt_0 rfl rfl ?_
  refine xr_iload_n B dX11_salt_1 rfl rfl ?_
  refine xr_cVi B (rest := []) [.int a1] xm_X11_isLoaf xv_X11_200 (fun q hq => xc_X11_isLoaf l D ad ca σ a1 q hq) xh_49 rfl rfl (by decide) rfl (Nat.le_of_ble_eq_true rfl) dX11_salt_2 hf (fun v1 hf => ?_)
  refine xr_if_ne B (tgt := 11) dX11_salt_5 (by decide) hf (fun _ hf => ?_) (fun _ hf => ?_)
  · refine xr_ldc B xk_X11_192 dX11_salt_8 ?_
    obtain rfl := Option.some.inj hf
    exact RR _ _ _ dX11_salt_10 rfl
  · refine xr_aload_n B dX11_salt_11 rfl rfl ?_
    refine xr_getR B xg_X11_7 xh_49 rfl dX11_salt_12 ?_
    refine xr_bipush B (v := 44) dX11_salt_15 (by decide) ?_
    refine xr_iload_n B dX11_salt_17 rfl rfl ?_
    refine xr_iadd B dX11_salt_18 ?_
    refine xq_iald B xh_50 dX11_salt_19 hf (fun v2 hf => ?_)
    refine xr_istore_n B (lv2 := [some (.ref (ad 49)), some (.int a1), some (.int v2)]) dX11_salt_20 rfl (by decide) rfl ?_
    refine xr_aload_n B dX11_salt_21 rfl rfl ?_
    refine xr_getR B xg_X11_7 xh_49 rfl dX11_salt_22 ?_
    refine xr_bipush B (v := 44) dX11_salt_25 (by decide) ?_
    refine xr_iload_n B dX11_salt_27 rfl rfl ?_
    refine xr_iadd B dX11_salt_28 ?_
    refine xr_iconst B (v := 1) dX11_salt_29 (by decide) ?_
    refine xq_iast B xh_50 dX11_salt_30 hf (fun s3 hf => ?_)
    refine xr_iload_n B dX11_salt_31 rfl rfl ?_
    obtain rfl := Option.some.inj hf
    exact RR _ _ _ dX11_salt_32 rfl

noncomputable def xf_X11_mayLie (σ : xr_S) (a1 : Int32) (a2 : Int32) : Option Int32 := (xf_X11_isFresh σ a1).bind (fun v1 => if v1 = 0 then (some 0) else (xr_ld σ 52 7 a1 (fun v2 => if v2 = a2 then (some 0) else ((xf_X11_isAwake σ a2).bind (fun v3 => if v3 = 0 then (some 1) else (some 0))))))
set_option maxRecDepth 100000 in
set_option maxHeartbeats 4000000 in
theorem xc_X11_mayLie (l : Launch) (D : va_G) (ad : Nat → Nat) (ca : Nat → ClassId) (σ : xr_S) (a1 : Int32) (a2 : Int32) (q : Int32) (hf : xf_X11_mayLie σ a1 a2 = some q) : xr_M l D ad ca yX11_mayLie cX11_mayLie 3 (some .boolean) 2 42 [.ref (ad 49), .int a1, .int a2] σ (some (.int q)) σ := by
  refine xr_openZ [some (.ref (ad 49)), some (.int a1), some (.int a2)] xm_X11_mayLie (Nat.le_of_ble_eq_true rfl) rfl (fun J B RR => ?_)
  unfold xf_X11_mayLie at hf
  refine xr_aload_n B dX11_mayLie_0 rfl rfl ?_
  refine xr_iload_n B dX11_mayLie_1 rfl rfl ?_
  refine xr_cVi B (rest := []) [.int a1] xm_X11_isFresh xv_X11_209 (fun q hq => xc_X11_isFresh l D ad ca σ a1 q hq) xh_49 rfl rfl (by decide) rfl (Nat.le_of_ble_eq_true rfl) dX11_mayLie_2 hf (fun v1 hf => ?_)
  refine xr_if_eq B (tgt := 30) dX11_mayLie_5 (by decide) hf (fun _ hf => ?_) (fun _ hf => ?_)
  · refine xr_iconst B (v := 0) dX11_mayLie_30 (by decide) ?_
    obtain rfl := Option.some.inj hf
    exact RR _ _ _ (by decide) dX11_mayLie_31 rfl
  · refine xr_aload_n B dX11_mayLie_8 rfl rfl ?_
    refine xr_getR B xg_X11_17 xh_49 rfl dX11_mayLie_9 ?_
    refine xr_iload_n B dX11_mayLie_12 rfl rfl ?_
    refine xq_iald B xh_52 dX11_mayLie_13 hf (fun v2 hf => ?_)
    refine xr_iload_n B dX11_mayLie_14 rfl rfl ?_
    refine xr_ic_eq B (tgt := 30) dX11_mayLie_15 (by decide) hf (fun _ hf => ?_) (fun _ hf => ?_)
    · refine xr_iconst B (v := 0) dX11_mayLie_30 (by decide) ?_
      obtain rfl := Option.some.inj hf
      exact RR _ _ _ (by decide) dX11_mayLie_31 rfl
    · refine xr_aload_n B dX11_mayLie_18 rfl rfl ?_
      refine xr_iload_n B dX11_mayLie_19 rfl rfl ?_
      refine xr_cVi B (rest := []) [.int a2] xm_X11_isAwake xv_X11_218 (fun q hq => xc_X11_isAwake l D ad ca σ a2 q hq) xh_49 rfl rfl (by decide) rfl (Nat.le_of_ble_eq_true rfl) dX11_mayLie_20 hf (fun v3 hf => ?_)
      refine xr_if_ne B (tgt := 30) dX11_mayLie_23 (by decide) hf (fun _ hf => ?_) (fun _ hf => ?_)
      · refine xr_iconst B (v := 1) dX11_mayLie_26 (by decide) ?_
        refine xr_goto B (tgt := 31) dX11_mayLie_27 (by decide) ?_
        obtain rfl := Option.some.inj hf
        exact RR _ _ _ (by decide) dX11_mayLie_31 rfl
      · refine xr_iconst B (v := 0) dX11_mayLie_30 (by decide) ?_
        obtain rfl := Option.some.inj hf
        exact RR _ _ _ (by decide) dX11_mayLie_31 rfl
