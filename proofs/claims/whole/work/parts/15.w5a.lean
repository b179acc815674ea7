noncomputable def xf_X10_feed (σ : xr_S) (a1 : Int32) : Option (Int32 × xr_S) := if a1 < 0 then (some ((-1000000002), σ)) else (if a1 ≤ 255 then ((xf_X6_add σ a1).bind (fun p1 => if p1.1 = 0 then (some ((-1000000004), p1.2)) else (some ((p1.2.1 1 0), p1.2)))) else (some ((-1000000002), σ)))
set_option maxRecDepth 100000 in
set_option maxHeartbeats 4000000 in
theorem xc_X10_feed (l : Launch) (D : va_G) (ad : Nat → Nat) (ca : Nat → ClassId) (σ : xr_S) (a1 : Int32) (q : (Int32 × xr_S)) (hf : xf_X10_feed σ a1 = some q) : xr_M l D ad ca yX10_feed cX10_feed 2 (some .int) 1 21 [.ref (ad 0), .int a1] σ (some (.int q.1)) q.2 := by
  refine xr_openI [some (.ref (ad 0)), some (.int a1)] xm_X10_feed (Nat.le_of_ble_eq_true rfl) rfl (fun J B RR => ?_)
  unfold xf_X10_feed at hf
  refine xr_iload_n B dX10_feed_0 rfl rfl ?_
  refine xr_if_lt B (tgt := 11) dX10_feed_1 (by decide) hf (fun _ hf => ?_) (fun _ hf => ?_)
  · refine xr_ldc B xk_X10_83 dX10_feed_11 ?_
    obtain rfl := Option.some.inj hf
    exact RR _ _ _ dX10_feed_13 rfl
  · refine xr_iload_n B dX10_feed_4 rfl rfl ?_
    refine xr_sipush B (v := 255) dX10_feed_5 (by decide) ?_
    refine xr_ic_le B (tgt := 14) dX10_feed_8 (by decide) hf (fun _ hf => ?_) (fun _ hf => ?_)
    · refine xr_aload_n B dX10_feed_14 rfl rfl ?_
      refine xr_getR B xg_X10_12 xh_0 rfl dX10_feed_15 ?_
      refine xr_iload_n B dX10_feed_18 rfl rfl ?_
      refine xr_cVI B (rest := []) [.int a1] xm_X6_add xv_X10_84 (fun q hq => xc_X6_add l D ad ca σ a1 q hq) xh_1 rfl rfl (by decide) rfl (Nat.le_of_ble_eq_true rfl) dX10_feed_19 hf (fun p1 hf => ?_)
      refine xr_if_eq B (tgt := 35) dX10_feed_22 (by decide) hf (fun _ hf => ?_) (fun _ hf => ?_)
      · refine xr_ldc B xk_X10_91 dX10_feed_35 ?_
        obtain rfl := Option.some.inj hf
        exact RR _ _ _ dX10_feed_37 rfl
      · refine xr_aload_n B dX10_feed_25 rfl rfl ?_
        refine xr_getR B xg_X10_12 xh_0 rfl dX10_feed_26 ?_
        refine xr_getI B xg_X10_88 xh_1 rfl dX10_feed_29 ?_
        refine xr_goto B (tgt := 37) dX10_feed_32 (by decide) ?_
        obtain rfl := Option.some.inj hf
        exact RR _ _ _ dX10_feed_37 rfl
    · refine xr_ldc B xk_X10_83 dX10_feed_11 ?_
      obtain rfl := Option.some.inj hf
      exact RR _ _ _ dX10_feed_13 rfl

noncomputable def xf_X10_street (σ : xr_S) : Option (Int32 × xr_S) := (xf_X6_parse σ).bind (fun p1 => xr_pf p1.2 0 11 (p1.2.1 1 1) (fun s2 => xr_pf s2 1 0 0 (fun s3 => if p1.1 = 0 then ((xf_X7_become s3).bind (fun s4 => (xf_X5_begin s4).bind (fun s5 => xr_pf s5 39 0 0 (fun s6 => xr_pf s6 45 0 0 (fun s7 => xr_pf s7 0 10 0 (fun s8 => some ((s8.1 9 2), s8))))))) else (some (((-10) - p1.1), s3)))))
set_option maxRecDepth 100000 in
set_option maxHeartbeats 4000000 in
theorem xc_X10_street (l : Launch) (D : va_G) (ad : Nat → Nat) (ca : Nat → ClassId) (σ : xr_S) (q : (Int32 × xr_S)) (hf : xf_X10_street σ = some q) : xr_M l D ad ca yX10_street cX10_street 2 (some .int) 5 111 [.ref (ad 0)] σ (some (.int q.1)) q.2 := by
  refine xr_openI [some (.ref (ad 0)), none] xm_X10_street (Nat.le_of_ble_eq_true rfl) rfl (fun J B RR => ?_)
  unfold xf_X10_street at hf
  refine xr_aload_n B dX10_street_0 rfl rfl ?_
  refine xr_getR B xg_X10_12 xh_0 rfl dX10_street_1 ?_
  refine xr_cVI B (rest := []) [] xm_X6_parse xv_X10_92 (fun q hq => xc_X6_parse l D ad ca σ q hq) xh_1 rfl rfl (by decide) rfl (Nat.le_of_ble_eq_true rfl) dX10_street_4 hf (fun p1 hf => ?_)
  refine xr_istore_n B (lv2 := [some (.ref (ad 0)), some (.int p1.1)]) dX10_street_7 rfl (by decide) rfl ?_
  refine xr_aload_n B dX10_street_8 rfl rfl ?_
  refine xr_aload_n B dX10_street_9 rfl rfl ?_
  refine xr_getR B xg_X10_12 xh_0 rfl dX10_street_10 ?_
  refine xr_getI B xg_X10_96 xh_1 rfl dX10_street_13 ?_
  refine xq_put B xp_X10_80 rfl rfl xh_0 rfl dX10_street_16 hf (fun s2 hf => ?_)
  refine xr_aload_n B dX10_street_19 rfl rfl ?_
  refine xr_getR B xg_X10_12 xh_0 rfl dX10_street_20 ?_
  refine xr_iconst B (v := 0) dX10_street_23 (by decide) ?_
  refine xq_put B xp_X10_88 rfl rfl xh_1 rfl dX10_street_24 hf (fun s3 hf => ?_)
  refine xr_iload_n B dX10_street_27 rfl rfl ?_
  refine xr_if_eq B (tgt := 36) dX10_street_28 (by decide) hf (fun _ hf => ?_) (fun _ hf => ?_)
  · refine xr_aload_n B dX10_street_36 rfl rfl ?_
    refine xr_getR B xg_X10_19 xh_0 rfl dX10_street_37 ?_
    refine xr_aload_n B dX10_street_40 rfl rfl ?_
    refine xr_getR B xg_X10_12 xh_0 rfl dX10_street_41 ?_
    refine xr_getR B xg_X10_97 xh_1 rfl dX10_street_44 ?_
    refine xr_cVv B (rest := []) [.ref (ad 3)] xm_X7_become xv_X10_100 (fun q hq => xc_X7_become l D ad ca s3 q hq) xh_9 rfl rfl (by decide) rfl (Nat.le_of_ble_eq_true rfl) dX10_street_47 hf (fun s4 hf => ?_)
    refine xr_aload_n B dX10_street_50 rfl rfl ?_
    refine xr_getR B xg_X10_26 xh_0 rfl dX10_street_51 ?_
    refine xr_aload_n B dX10_street_54 rfl rfl ?_
    refine xr_getR B xg_X10_19 xh_0 rfl dX10_street_55 ?_
    refine xr_cVv B (rest := []) [.ref (ad 9)] xm_X5_begin xv_X10_104 (fun q hq => xc_X5_begin l D ad ca s4 q hq) xh_15 rfl rfl (by decide) rfl (Nat.le_of_ble_eq_true rfl) dX10_street_58 hf (fun s5 hf => ?_)
    refine xr_aload_n B dX10_street_61 rfl rfl ?_
    refine xr_getR B xg_X10_51 xh_0 rfl dX10_street_62 ?_
    refine xr_iconst B (v := 0) dX10_street_65 (by decide) ?_
    refine xq_put B xp_X10_107 rfl rfl xh_39 rfl dX10_street_66 hf (fun s6 hf => ?_)
    refine xr_aload_n B dX10_street_69 rfl rfl ?_
    refine xr_getR B xg_X10_72 xh_0 rfl dX10_street_70 ?_
    refine xr_iconst B (v := 0) dX10_street_73 (by decide) ?_
    refine xq_put B xp_X10_110 rfl rfl xh_45 rfl dX10_street_74 hf (fun s7 hf => ?_)
    refine xr_aload_n B dX10_street_77 rfl rfl ?_
    refine xr_iconst B (v := 0) dX10_street_78 (by decide) ?_
    refine xq_put B xp_X10_76 rfl rfl xh_0 rfl dX10_street_79 hf (fun s8 hf => ?_)
    refine xr_aload_n B dX10_street_82 rfl rfl ?_
    refine xr_getR B xg_X10_19 xh_0 rfl dX10_street_83 ?_
    refine xr_getI B xg_X10_111 xh_9 rfl dX10_street_86 ?_
    obtain rfl := Option.some.inj hf
    exact RR _ _ _ dX10_street_89 rfl
  · refine xr_bipush B (v := (-10)) dX10_street_31 (by decide) ?_
    refine xr_iload_n B dX10_street_33 rfl rfl ?_
    refine xr_isub B dX10_street_34 ?_
    obtain rfl := Option.some.inj hf
    exact RR _ _ _ dX10_street_35 rfl

noncomputable def xf_X10_fault (σ : xr_S) : Option Int32 := some (σ.1 0 11)
set_option maxRecDepth 100000 in
set_option maxHeartbeats 4000000 in
theorem xc_X10_fault (l : Launch) (D : va_G) (ad : Nat → Nat) (ca : Nat → ClassId) (σ : xr_S) (q : Int32) (hf : xf_X10_fault σ = some q) : xr_M l D ad ca yX10_fault cX10_fault 1 (some .int) 0 0 [.ref (ad 0)] σ (some (.int q)) σ := by
  refine xr_openI [some (.ref (ad 0))] xm_X10_fault (Nat.le_of_ble_eq_true rfl) rfl (fun J B RR => ?_)
  unfold xf_X10_fault at hf
  refine xr_aload_n B dX10_fault_0 rfl rfl ?_
  refine xr_getI B xg_X10_80 xh_0 rfl dX10_fault_1 ?_
  obtain rfl := Option.some.inj hf
  exact RR _ _ _ dX10_fault_4 rfl

noncomputable def xf_X10_told (σ : xr_S) (a1 : Int32) : Option Int32 := if a1 = 0 then (some (σ.1 9 0)) else if a1 = 1 then (some (σ.1 9 1)) else if a1 = 2 then (some (σ.1 9 2)) else if a1 = 3 then (some (σ.1 9 3)) else if a1 = 4 then (some (σ.1 9 4)) else if a1 = 5 then (some (σ.1 1 0)) else if a1 = 6 then (some (σ.1 15 5)) else if a1 = 7 then (some (σ.1 15 6)) else if a1 = 8 then (some (σ.1 15 4)) else if a1 = 9 then ((xf_X5_lyingSet σ).bind (fun v1 => some v1)) else if a1 = 10 then ((xf_X5_sleptOnSet σ).bind (fun v2 => some v2)) else if a1 = 11 then (some (σ.1 15 3)) else if a1 = 12 then (some (σ.1 39 0)) else if a1 = 13 then (some (σ.1 45 0)) else (some (-1000000002))
set_option maxRecDepth 100000 in
set_option maxHeartbeats 4000000 in
theorem xc_X10_told (l : Launch) (D : va_G) (ad : Nat → Nat) (ca : Nat → ClassId) (σ : xr_S) (a1 : Int32) (q : Int32) (hf : xf_X10_told σ a1 = some q) : xr_M l D ad ca yX10_told cX10_told 2 (some .int) 2 42 [.ref (ad 0), .int a1] σ (some (.int q)) σ := by
  refine xr_openI [some (.ref (ad 0)), some (.int a1)] xm_X10_told (Nat.le_of_ble_eq_true rfl) rfl (fun J B RR => ?_)
  unfold xf_X10_told at hf
  refine xr_iload_n B dX10_told_0 rfl rfl ?_
  by_cases hc0 : a1 = 0
  · rw [if_pos hc0] at hf
    refine xr_tabI B (off := 71) (tgt := 72) dX10_told_1 (by rw [hc0]; decide) (by rw [hc0]; decide) (by rw [hc0]; decide) (by decide) ?_
    refine xr_aload_n B dX10_told_72 rfl rfl ?_
    refine xr_getR B xg_X10_19 xh_0 rfl dX10_told_73 ?_
    refine xr_getI B xg_X10_114 xh_9 rfl dX10_told_76 ?_
    obtain rfl := Option.some.inj hf
    exact RR _ _ _ dX10_told_79 rfl
  rw [if_neg hc0] at hf
  by_cases hc1 : a1 = 1
  · rw [if_pos hc1] at hf
    refine xr_tabI B (off := 79) (tgt := 80) dX10_told_1 (by rw [hc1]; decide) (by rw [hc1]; decide) (by rw [hc1]; decide) (by decide) ?_
    refine xr_aload_n B dX10_told_80 rfl rfl ?_
    refine xr_getR B xg_X10_19 xh_0 rfl dX10_told_81 ?_
    refine xr_getI B xg_X10_117 xh_9 rfl dX10_told_84 ?_
    obtain rfl := Option.some.inj hf
    exact RR _ _ _ dX10_told_87 rfl
  rw [if_neg hc1] at hf
  by_cases hc2 : a1 = 2
  · rw [if_pos hc2] at hf
    refine xr_tabI B (off := 87) (tgt := 88) dX10_told_1 (by rw [hc2]; decide) (by rw [hc2]; decide) (by rw [hc2]; decide) (by decide) ?_
    refine xr_aload_n B dX10_told_88 rfl rfl ?_
    refine xr_getR B xg_X10_19 xh_0 rfl dX10_told_89 ?_
    refine xr_getI B xg_X10_111 xh_9 rfl dX10_told_92 ?_
    obtain rfl := Option.some.inj hf
    exact RR _ _ _ dX10_told_95 rfl
  rw [if_neg hc2] at hf
  by_cases hc3 : a1 = 3
  · rw [if_pos hc3] at hf
    refine xr_tabI B (off := 95) (tgt := 96) dX10_told_1 (by rw [hc3]; decide) (by rw [hc3]; decide) (by rw [hc3]; decide) (by decide) ?_
    refine xr_aload_n B dX10_told_96 rfl rfl ?_
    refine xr_getR B xg_X10_19 xh_0 rfl dX10_told_97 ?_
    refine xr_getI B xg_X10_120 xh_9 rfl dX10_told_100 ?_
    obtain rfl := Option.some.inj hf
    exact RR _ _ _ dX10_told_103 rfl
  rw [if_neg hc3] at hf
  by_cases hc4 : a1 = 4
  · rw [if_pos hc4] at hf
    refine xr_tabI B (off := 103) (tgt := 104) dX10_told_1 (by rw [hc4]; decide) (by rw [hc4]; decide) (by rw [hc4]; decide) (by decide) ?_
    refine xr_aload_n B dX10_told_104 rfl rfl ?_
    refine xr_getR B xg_X10_19 xh_0 rfl dX10_told_105 ?_
    refine xr_getI B xg_X10_123 xh_9 rfl dX10_told_108 ?_
    obtain rfl := Option.some.inj hf
    exact RR _ _ _ dX10_told_111 rfl
  rw [if_neg hc4] at hf
  by_cases hc5 : a1 = 5
  · rw [if_pos hc5] at hf
    refine xr_tabI B (off := 111) (tgt := 112) dX10_told_1 (by rw [hc5]; decide) (by rw [hc5]; decide) (by rw [hc5]; decide) (by decide) ?_
    refine xr_aload_n B dX10_told_112 rfl rfl ?_
    refine xr_getR B xg_X10_12 xh_0 rfl dX10_told_113 ?_
    refine xr_getI B xg_X10_88 xh_1 rfl dX10_told_116 ?_
    obtain rfl := Option.some.inj hf
    exact RR _ _ _ dX10_told_119 rfl
  rw [if_neg hc5] at hf
  by_cases hc6 : a1 = 6
  · rw [if_pos hc6] at hf
    refine xr_tabI B (off := 119) (tgt := 120) dX10_told_1 (by rw [hc6]; decide) (by rw [hc6]; decide) (by rw [hc6]; decide) (by decide) ?_
    refine xr_aload_n B dX10_told_120 rfl rfl ?_
    refine xr_getR B xg_X10_26 xh_0 rfl dX10_told_121 ?_
    refine xr_getI B xg_X10_126 xh_15 rfl dX10_told_124 ?_
    obtain rfl := Option.some.inj hf
    exact RR _ _ _ dX10_told_127 rfl
  rw [if_neg hc6] at hf
  by_cases hc7 : a1 = 7
  · rw [if_pos hc7] at hf
    refine xr_tabI B (off := 127) (tgt := 128) dX10_told_1 (by rw [hc7]; decide) (by rw [hc7]; decide) (by rw [hc7]; decide) (by decide) ?_
    refine xr_aload_n B dX10_told_128 rfl rfl ?_
    refine xr_getR B xg_X10_26 xh_0 rfl dX10_told_129 ?_
    refine xr_getI B xg_X10_129 xh_15 rfl dX10_told_132 ?_
    obtain rfl := Option.some.inj hf
    exact RR _ _ _ dX10_told_135 rfl
  rw [if_neg hc7] at hf
  by_cases hc8 : a1 = 8
  · rw [if_pos hc8] at hf
    refine xr_tabI B (off := 135) (tgt := 136) dX10_told_1 (by rw [hc8]; decide) (by rw [hc8]; decide) (by rw [hc8]; decide) (by decide) ?_
    refine xr_aload_n B dX10_told_136 rfl rfl ?_
    refine xr_getR B xg_X10_26 xh_0 rfl dX10_told_137 ?_
    refine xr_getI B xg_X10_132 xh_15 rfl dX10_told_140 ?_
    obtain rfl := Option.some.inj hf
    exact RR _ _ _ dX10_told_143 rfl
  rw [if_neg hc8] at hf
  by_cases hc9 : a1 = 9
  · rw [if_pos hc9] at hf
    refine xr_tabI B (off := 143) (tgt := 144) dX10_told_1 (by rw [hc9]; decide) (by rw [hc9]; decide) (by rw [hc9]; decide) (by decide) ?_
    refine xr_aload_n B dX10_told_144 rfl rfl ?_
    refine xr_getR B xg_X10_26 xh_0 rfl dX10_told_145 ?_
    refine xr_cVi B (rest := []) [] xm_X5_lyingSet xv_X10_135 (fun q hq => xc_X5_lyingSet l D ad ca σ q hq) xh_15 rfl rfl (by decide) rfl (Nat.le_of_ble_eq_true rfl) dX10_told_148 hf (fun v1 hf => ?_)
    obtain rfl := Option.some.inj hf
    exact RR _ _ _ dX10_told_151 rfl
  rw [if_neg hc9] at hf
  by_cases hc10 : a1 = 10
  · rw [if_pos hc10] at hf
    refine xr_tabI B (off := 151) (tgt := 152) dX10_told_1 (by rw [hc10]; decide) (by rw [hc10]; decide) (by rw [hc10]; decide) (by decide) ?_
    refine xr_aload_n B dX10_told_152 rfl rfl ?_
    refine xr_getR B xg_X10_26 xh_0 rfl dX10_told_153 ?_
    refine xr_cVi B (rest := []) [] xm_X5_sleptOnSet xv_X10_138 (fun q hq => xc_X5_sleptOnSet l D ad ca σ q hq) xh_15 rfl rfl (by decide) rfl (Nat.le_of_ble_eq_true rfl) dX10_told_156 hf (fun v2 hf => ?_)
    obtain rfl := Option.some.inj hf
    exact RR _ _ _ dX10_told_159 rfl
  rw [if_neg hc10] at hf
  by_cases hc11 : a1 = 11
  · rw [if_pos hc11] at hf
    refine xr_tabI B (off := 159) (tgt := 160) dX10_told_1 (by rw [hc11]; decide) (by rw [hc11]; decide) (by rw [hc11]; decide) (by decide) ?_
    refine xr_aload_n B dX10_told_160 rfl rfl ?_
    refine xr_getR B xg_X10_26 xh_0 rfl dX10_told_161 ?_
    refine xr_getI B xg_X10_141 xh_15 rfl dX10_told_164 ?_
    obtain rfl := Option.some.inj hf
    exact RR _ _ _ dX10_told_167 rfl
  rw [if_neg hc11] at hf
  by_cases hc12 : a1 = 12
  · rw [if_pos hc12] at hf
    refine xr_tabI B (off := 167) (tgt := 168) dX10_told_1 (by rw [hc12]; decide) (by rw [hc12]; decide) (by rw [hc12]; decide) (by decide) ?_
    refine xr_aload_n B dX10_told_168 rfl rfl ?_
    refine xr_getR B xg_X10_51 xh_0 rfl dX10_told_169 ?_
    refine xr_getI B xg_X10_107 xh_39 rfl dX10_told_172 ?_
    obtain rfl := Option.some.inj hf
    exact RR _ _ _ dX10_told_175 rfl
  rw [if_neg hc12] at hf
  by_cases hc13 : a1 = 13
  · rw [if_pos hc13] at hf
    refine xr_tabI B (off := 175) (tgt := 176) dX10_told_1 (by rw [hc13]; decide) (by rw [hc13]; decide) (by rw [hc13]; decide) (by decide) ?_
    refine xr_aload_n B dX10_told_176 rfl rfl ?_
    refine xr_getR B xg_X10_72 xh_0 rfl dX10_told_177 ?_
    refine xr_getI B xg_X10_110 xh_45 rfl dX10_told_180 ?_
    obtain rfl := Option.some.inj hf
    exact RR _ _ _ dX10_told_183 rfl
  rw [if_neg hc13] at hf
  refine xr_tabO B (tgt := 184) dX10_told_1 (xr_tout 13 (by decide) (fun j hj => ?_)) (by decide) ?_
  · match j, hj with
    | 0, _ => exact hc0
    | 1, _ => exact hc1
    | 2, _ => exact hc2
    | 3, _ => exact hc3
    | 4, _ => exact hc4
    | 5, _ => exact hc5
    | 6, _ => exact hc6
    | 7, _ => exact hc7
    | 8, _ => exact hc8
    | 9, _ => exact hc9
    | 10, _ => exact hc10
    | 11, _ => exact hc11
    | 12, _ => exact hc12
    | 13, _ => exact hc13
    | j + 14, hj => exact absurd hj (by omega)
  · refine xr_ldc B xk_X10_83 dX10_told_184 ?_
    obtain rfl := Option.some.inj hf
    exact RR _ _ _ dX10_told_186 rfl

noncomputable def xf_X10_weight (σ : xr_S) (a1 : Int32) (a2 : Int32) : Option Int32 := (xf_X7_hasSleeper σ a1).bind (fun v1 => if v1 = 0 then (some (-1000000001)) else ((xf_X7_hasDream σ a2).bind (fun v2 => if v2 = 0 then (some (-1000000001)) else ((xf_X9_of σ 16 a1 a2).bind (fun v3 => some v3)))))
set_option maxRecDepth 100000 in
set_option maxHeartbeats 4000000 in
theorem xc_X10_weight (l : Launch) (D : va_G) (ad : Nat → Nat) (ca : Nat → ClassId) (σ : xr_S) (a1 : Int32) (a2 : Int32) (q : Int32) (hf : xf_X10_weight σ a1 a2 = some q) : xr_M l D ad ca yX10_weight cX10_weight 3 (some .int) 1 23 [.ref (ad 0), .int a1, .int a2] σ (some (.int q)) σ := by
  refine xr_openI [some (.ref (ad 0)), some (.int a1), some (.int a2)] xm_X10_weight (Nat.le_of_ble_eq_true rfl) rfl (fun J B RR => ?_)
  unfold xf_X10_weight at hf
  refine xr_aload_n B dX10_weight_0 rfl rfl ?_
  refine xr_getR B xg_X10_19 xh_0 rfl dX10_weight_1 ?_
  refine xr_iload_n B dX10_weight_4 rfl rfl ?_
  refine xr_cVi B (rest := []) [.int a1] xm_X7_hasSleeper xv_X10_144 (fun q hq => xc_X7_hasSleeper l D ad ca σ a1 q hq) xh_9 rfl rfl (by decide) rfl (Nat.le_of_ble_eq_true rfl) dX10_weight_5 hf (fun v1 hf => ?_)
  refine xr_if_eq B (tgt := 22) dX10_weight_8 (by decide) hf (fun _ hf => ?_) (fun _ hf => ?_)
  · refine xr_ldc B xk_X10_150 dX10_weight_22 ?_
    obtain rfl := Option.some.inj hf
    exact RR _ _ _ dX10_weight_24 rfl
  · refine xr_aload_n B dX10_weight_11 rfl rfl ?_
    refine xr_getR B xg_X10_19 xh_0 rfl dX10_weight_12 ?_
    refine xr_iload_n B dX10_weight_15 rfl rfl ?_
    refine xr_cVi B (rest := []) [.int a2] xm_X7_hasDream xv_X10_147 (fun q hq => xc_X7_hasDream l D ad ca σ a2 q hq) xh_9 rfl rfl (by decide) rfl (Nat.le_of_ble_eq_true rfl) dX10_weight_16 hf (fun v2 hf => ?_)
    refine xr_if_ne B (tgt := 25) dX10_weight_19 (by decide) hf (fun _ hf => ?_) (fun _ hf => ?_)
    · refine xr_ldc B xk_X10_150 dX10_weight_22 ?_
      obtain rfl := Option.some.inj hf
      exact RR _ _ _ dX10_weight_24 rfl
    · refine xr_aload_n B dX10_weight_25 rfl rfl ?_
      refine xr_getR B xg_X10_26 xh_0 rfl dX10_weight_26 ?_
      refine xr_getR B xg_X10_151 xh_15 rfl dX10_weight_29 ?_
      refine xr_iload_n B dX10_weight_32 rfl rfl ?_
      refine xr_iload_n B dX10_weight_33 rfl rfl ?_
      refine xr_cVi B (rest := []) [.int a1, .int a2] xm_X9_of xv_X10_155 (fun q hq => xc_X9_of l D ad ca σ 16 a1 a2 ⟨xh_16, xh_17⟩ q hq) xh_16 rfl rfl (by decide) rfl (Nat.le_of_ble_eq_true rfl) dX10_weight_34 hf (fun v3 hf => ?_)
      obtain rfl := Option.some.inj hf
      exact RR _ _ _ dX10_weight_37 rfl

noncomputable def xf_X10_greatestShared_L2 (a1 : Int32) (a2 : Int32) (K4 : Unit → Option Int32) (t1 : Int32) (rec2 : Int32 → Option Int32) : Option Int32 := if t1 ≤ 1 then (K4 ()) else (xr_nz t1 (xr_jn (fun (w5 : Unit) => rec2 (t1 + (-1))) (fun j6 => if (a1 - a1 / t1 * t1) = 0 then (xr_nz t1 (if (a2 - a2 / t1 * t1) = 0 then (some t1) else (j6 ()))) else (j6 ()))))
noncomputable def xf_X10_greatestShared (σ : xr_S) (a1 : Int32) (a2 : Int32) : Option Int32 := xr_lw (xf_X10_greatestShared_L2 a1 a2 (fun (e3 : Unit) => some 1)) a2
set_option maxRecDepth 100000 in
set_option maxHeartbeats 4000000 in
theorem xc_X10_greatestShared (l : Launch) (D : va_G) (ad : Nat → Nat) (ca : Nat → ClassId) (σ : xr_S) (a1 : Int32) (a2 : Int32) (q : Int32) (hf : xf_X10_greatestShared σ a1 a2 = some q) : xr_M l D ad ca yX10_greatestShared cX10_greatestShared 3 (some .int) 0 0 [.int a1, .int a2] σ (some (.int q)) σ := by
  refine xr_openI [some (.int a1), some (.int a2), none] xm_X10_greatestShared (Nat.le_of_ble_eq_true rfl) rfl (fun J B RR => ?_)
  unfold xf_X10_greatestShared at hf
  refine xr_iload_n B dX10_greatestShared_0 rfl rfl ?_
  refine xr_istore_n B (lv2 := [some (.int a1), some (.int a2), some (.int a2)]) dX10_greatestShared_1 rfl (by decide) rfl ?_
  refine xq_loop (fun (t1 : Int32) => J 2 [some (.int a1), some (.int a2), some (.int t1)] [] σ) (fun (e3 : Unit) => J 27 [none, none, none] [] σ) hf (fun e3 hf => ?_) (fun K4 hK4 t1 rec2 hrec2 hf => ?_)
  · refine xr_iconst B (v := 1) dX10_greatestShared_27 (by decide) ?_
    obtain rfl := Option.some.inj hf
    exact RR _ _ _ dX10_greatestShared_28 rfl
  · unfold xf_X10_greatestShared_L2 at hf
    refine xr_iload_n B dX10_greatestShared_2 rfl rfl ?_
    refine xr_iconst B (v := 1) dX10_greatestShared_3 (by decide) ?_
    refine xr_ic_le B (tgt := 27) dX10_greatestShared_4 (by decide) hf (fun _ hf => ?_) (fun _ hf => ?_)
    · refine xr_forget B (lv2 := [none, none, none]) trivial ?_
      exact hK4 () hf
    · refine xr_iload_n B dX10_greatestShared_7 rfl rfl ?_
      refine xr_iload_n B dX10_greatestShared_8 rfl rfl ?_
      refine xr_irem B dX10_greatestShared_9 hf (fun hf => ?_)
      refine xr_meet (fun (w5 : Unit) => J 21 [some (.int a1), some (.int a2), some (.int t1)] [] σ) hf (fun w5 hf => ?_) (fun j6 hj6 hf => ?_)
      · refine xr_iinc B (v := (t1 + (-1))) (lv2 := [some (.int a1), some (.int a2), some (.int (t1 + (-1)))]) dX10_greatestShared_21 rfl (congrArg (t1 + ·) (by decide : Int32.ofInt (-1) = -1)) (by decide) rfl ?_
        refine xr_goto B (tgt := 2) dX10_greatestShared_24 (by decide) ?_
        exact hrec2 (t1 + (-1)) hf
      · refine xr_if_ne B (tgt := 21) dX10_greatestShared_10 (by decide) hf (fun _ hf => ?_) (fun _ hf => ?_)
        · refine xr_iload_n B dX10_greatestShared_13 rfl rfl ?_
          refine xr_iload_n B dX10_greatestShared_14 rfl rfl ?_
          refine xr_irem B dX10_greatestShared_15 hf (fun hf => ?_)
          refine xr_if_ne B (tgt := 21) dX10_greatestShared_16 (by decide) hf (fun _ hf => ?_) (fun _ hf => ?_)
          · refine xr_iload_n B dX10_greatestShared_19 rfl rfl ?_
            obtain rfl := Option.some.inj hf
            exact RR _ _ _ dX10_greatestShared_20 rfl
          · exact hj6 () hf
        · exact hj6 () hf

noncomputable def xf_X10_odds (σ : xr_S) (a1 : Int32) (a2 : Int32) (a3 : Int32) : Option Int32 := (xf_X7_hasSleeper σ a1).bind (fun v1 => if v1 = 0 then (some (-1000000001)) else ((xf_X7_hasDream σ a2).bind (fun v2 => if v2 = 0 then (some (-1000000001)) else (if a3 < 0 then (some (-1000000002)) else (if a3 ≤ 1 then ((xf_X9_of σ 16 a1 a2).bind (fun v3 => (xf_X9_all σ 16 a1).bind (fun v4 => (xf_X10_greatestShared σ v3 v4).bind (fun v5 => xr_jn (fun (w6 : Int32) => xr_nz v5 (some (w6 / v5))) (fun j7 => if a3 = 0 then (j7 v3) else (j7 v4)))))) else (some (-1000000002)))))))
set_option maxRecDepth 100000 in
set_option maxHeartbeats 4000000 in
theorem xc_X10_odds (l : Launch) (D : va_G) (ad : Nat → Nat) (ca : Nat → ClassId) (σ : xr_S) (a1 : Int32) (a2 : Int32) (a3 : Int32) (q : Int32) (hf : xf_X10_odds σ a1 a2 a3 = some q) : xr_M l D ad ca yX10_odds cX10_odds 7 (some .int) 1 23 [.ref (ad 0), .int a1, .int a2, .int a3] σ (some (.int q)) σ := by
  refine xr_openI [some (.ref (ad 0)), some (.int a1), some (.int a2), some (.int a3), none, none, none] xm_X10_odds (Nat.le_of_ble_eq_true rfl) rfl (fun J B RR => ?_)
  unfold xf_X10_odds at hf
  refine xr_aload_n B dX10_odds_0 rfl rfl ?_
  refine xr_getR B xg_X10_19 xh_0 rfl dX10_odds_1 ?_
  refine xr_iload_n B dX10_odds_4 rfl rfl ?_
  refine xr_cVi B (rest := []) [.int a1] xm_X7_hasSleeper xv_X10_144 (fun q hq => xc_X7_hasSleeper l D ad ca σ a1 q hq) xh_9 rfl rfl (by decide) rfl (Nat.le_of_ble_eq_true rfl) dX10_odds_5 hf (fun v1 hf => ?_)
  refine xr_if_eq B (tgt := 22) dX10_odds_8 (by decide) hf (fun _ hf => ?_) (fun _ hf => ?_)
  · refine xr_ldc B xk_X10_150 dX10_odds_22 ?_
    obtain rfl := Option.some.inj hf
    exact RR _ _ _ dX10_odds_24 rfl
  · refine xr_aload_n B dX10_odds_11 rfl rfl ?_
    refine xr_getR B xg_X10_19 xh_0 rfl dX10_odds_12 ?_
    refine xr_iload_n B dX10_odds_15 rfl rfl ?_
    refine xr_cVi B (rest := []) [.int a2] xm_X7_hasDream xv_X10_147 (fun q hq => xc_X7_hasDream l D ad ca σ a2 q hq) xh_9 rfl rfl (by decide) rfl (Nat.le_of_ble_eq_true rfl) dX10_odds_16 hf (fun v2 hf => ?_)
    refine xr_if_ne B (tgt := 25) dX10_odds_19 (by decide) hf (fun _ hf => ?_) (fun _ hf => ?_)
    · refine xr_ldc B xk_X10_150 dX10_odds_22 ?_
      obtain rfl := Option.some.inj hf
      exact RR _ _ _ dX10_odds_24 rfl
    · refine xr_iload_n B dX10_odds_25 rfl rfl ?_
      refine xr_if_lt B (tgt := 34) dX10_odds_26 (by decide) hf (fun _ hf => ?_) (fun _ hf => ?_)
      · refine xr_ldc B xk_X10_83 dX10_odds_34 ?_
        obtain rfl := Option.some.inj hf
        exact RR _ _ _ dX10_odds_36 rfl
      · refine xr_iload_n B dX10_odds_29 rfl rfl ?_
        refine xr_iconst B (v := 1) dX10_odds_30 (by decide) ?_
        refine xr_ic_le B (tgt := 37) dX10_odds_31 (by decide) hf (fun _ hf => ?_) (fun _ hf => ?_)
        · refine xr_aload_n B dX10_odds_37 rfl rfl ?_
          refine xr_getR B xg_X10_26 xh_0 rfl dX10_odds_38 ?_
          refine xr_getR B xg_X10_151 xh_15 rfl dX10_odds_41 ?_
          refine xr_iload_n B dX10_odds_44 rfl rfl ?_
          refine xr_iload_n B dX10_odds_45 rfl rfl ?_
          refine xr_cVi B (rest := []) [.int a1, .int a2] xm_X9_of xv_X10_155 (fun q hq => xc_X9_of l D ad ca σ 16 a1 a2 ⟨xh_16, xh_17⟩ q hq) xh_16 rfl rfl (by decide) rfl (Nat.le_of_ble_eq_true rfl) dX10_odds_46 hf (fun v3 hf => ?_)
          refine xr_istore B (lv2 := [some (.ref (ad 0)), some (.int a1), some (.int a2), some (.int a3), some (.int v3), none, none]) dX10_odds_49 (by decide) rfl ?_
          refine xr_aload_n B dX10_odds_51 rfl rfl ?_
          refine xr_getR B xg_X10_26 xh_0 rfl dX10_odds_52 ?_
          refine xr_getR B xg_X10_151 xh_15 rfl dX10_odds_55 ?_
          refine xr_iload_n B dX10_odds_58 rfl rfl ?_
          refine xr_cVi B (rest := []) [.int a1] xm_X9_all xv_X10_161 (fun q hq => xc_X9_all l D ad ca σ 16 a1 ⟨xh_16, xh_17⟩ q hq) xh_16 rfl rfl (by decide) rfl (Nat.le_of_ble_eq_true rfl) dX10_odds_59 hf (fun v4 hf => ?_)
          refine xr_istore B (lv2 := [some (.ref (ad 0)), some (.int a1), some (.int a2), some (.int a3), some (.int v3), some (.int v4), none]) dX10_odds_62 (by decide) rfl ?_
          refine xr_iload B dX10_odds_64 rfl ?_
          refine xr_iload B dX10_odds_66 rfl ?_
          refine xr_cSi B (rest := []) [.int v3, .int v4] xm_X10_greatestShared xs_X10_165 (fun q hq => xc_X10_greatestShared l D ad ca σ v3 v4 q hq) rfl (by decide) rfl (Nat.le_of_ble_eq_true rfl) dX10_odds_68 hf (fun v5 hf => ?_)
          refine xr_istore B (lv2 := [some (.ref (ad 0)), some (.int a1), some (.int a2), some (.int a3), some (.int v3), some (.int v4), some (.int v5)]) dX10_odds_71 (by decide) rfl ?_
          refine xr_iload_n B dX10_odds_73 rfl rfl ?_
          refine xr_meet (fun (w6 : Int32) => J 84 [none, none, none, none, none, none, some (.int v5)] [.int w6] σ) hf (fun w6 hf => ?_) (fun j7 hj7 hf => ?_)
          · refine xr_iload B dX10_odds_84 rfl ?_
            refine xr_idiv B dX10_odds_86 hf (fun hf => ?_)
            obtain rfl := Option.some.inj hf
            exact RR _ _ _ dX10_odds_87 rfl
          · refine xr_if_ne B (tgt := 82) dX10_odds_74 (by decide) hf (fun _ hf => ?_) (fun _ hf => ?_)
            · refine xr_iload B dX10_odds_77 rfl ?_
              refine xr_goto B (tgt := 84) dX10_odds_79 (by decide) ?_
              refine xr_forget B (lv2 := [none, none, none, none, none, none, some (.int v5)]) ⟨rfl, trivial⟩ ?_
              exact hj7 v3 hf
            · refine xr_iload B dX10_odds_82 rfl ?_
              refine xr_forget B (lv2 := [none, none, none, none, none, none, some (.int v5)]) ⟨rfl, trivial⟩ ?_
              exact hj7 v4 hf
        · refine xr_ldc B xk_X10_83 dX10_odds_34 ?_
          obtain rfl := Option.some.inj hf
          exact RR _ _ _ dX10_odds_36 rfl

noncomputable def xf_X10_likeliest (σ : xr_S) (a1 : Int32) : Option Int32 := (xf_X7_hasSleeper σ a1).bind (fun v1 => if v1 = 0 then (some (-1000000001)) else ((xf_X9_top σ 16 a1).bind (fun v2 => some v2)))
set_option maxRecDepth 100000 in
set_option maxHeartbeats 4000000 in
theorem xc_X10_likeliest (l : Launch) (D : va_G) (ad : Nat → Nat) (ca : Nat → ClassId) (σ : xr_S) (a1 : Int32) (q : Int32) (hf : xf_X10_likeliest σ a1 = some q) : xr_M l D ad ca yX10_likeliest cX10_likeliest 2 (some .int) 1 24 [.ref (ad 0), .int a1] σ (some (.int q)) σ := by
  refine xr_openI [some (.ref (ad 0)), some (.int a1)] xm_X10_likeliest (Nat.le_of_ble_eq_true rfl) rfl (fun J B RR => ?_)
  unfold xf_X10_likeliest at hf
  refine xr_aload_n B dX10_likeliest_0 rfl rfl ?_
  refine xr_getR B xg_X10_19 xh_0 rfl dX10_likeliest_1 ?_
  refine xr_iload_n B dX10_likeliest_4 rfl rfl ?_
  refine xr_cVi B (rest := []) [.int a1] xm_X7_hasSleeper xv_X10_144 (fun q hq => xc_X7_hasSleeper l D ad ca σ a1 q hq) xh_9 rfl rfl (by decide) rfl (Nat.le_of_ble_eq_true rfl) dX10_likeliest_5 hf (fun v1 hf => ?_)
  refine xr_if_eq B (tgt := 25) dX10_likeliest_8 (by decide) hf (fun _ hf => ?_) (fun _ hf => ?_)
  · refine xr_ldc B xk_X10_150 dX10_likeliest_25 ?_
    obtain rfl := Option.some.inj hf
    exact RR _ _ _ dX10_likeliest_27 rfl
  · refine xr_aload_n B dX10_likeliest_11 rfl rfl ?_
    refine xr_getR B xg_X10_26 xh_0 rfl dX10_likeliest_12 ?_
    refine xr_getR B xg_X10_151 xh_15 rfl dX10_likeliest_15 ?_
    refine xr_iload_n B dX10_likeliest_18 rfl rfl ?_
    refine xr_cVi B (rest := []) [.int a1] xm_X9_top xv_X10_168 (fun q hq => xc_X9_top l D ad ca σ 16 a1 ⟨xh_16, xh_17⟩ q hq) xh_16 rfl rfl (by decide) rfl (Nat.le_of_ble_eq_true rfl) dX10_likeliest_19 hf (fun v2 hf => ?_)
    refine xr_goto B (tgt := 27) dX10_likeliest_22 (by decide) ?_
    obtain rfl := Option.some.inj hf
    exact RR _ _ _ dX10_likeliest_27 rfl

noncomputable def xf_X10_bit (σ : xr_S) (a1 : Int32) (a2 : Int32) : Option Int32 := some ((a1 >>> (a2 &&& 31)) &&& 1)
set_option maxRecDepth 100000 in
set_option maxHeartbeats 4000000 in
theorem xc_X10_bit (l : Launch) (D : va_G) (ad : Nat → Nat) (ca : Nat → ClassId) (σ : xr_S) (a1 : Int32) (a2 : Int32) (q : Int32) (hf : xf_X10_bit σ a1 a2 = some q) : xr_M l D ad ca yX10_bit cX10_bit 2 (some .int) 0 0 [.int a1, .int a2] σ (some (.int q)) σ := by
  refine xr_openI [some (.int a1), some (.int a2)] xm_X10_bit (Nat.le_of_ble_eq_true rfl) rfl (fun J B RR => ?_)
  unfold xf_X10_bit at hf
  refine xr_iload_n B dX10_bit_0 rfl rfl ?_
  refine xr_iload_n B dX10_bit_1 rfl rfl ?_
  refine xr_ishr B dX10_bit_2 ?_
  refine xr_iconst B (v := 1) dX10_bit_3 (by decide) ?_
  refine xr_iand B dX10_bit_4 ?_
  obtain rfl := Option.some.inj hf
  exact RR _ _ _ dX10_bit_5 rfl

noncomputable def xf_X10_loaf (σ : xr_S) (a1 : Int32) (a2 : Int32) : Option Int32 := (xf_X7_hasLoaf σ a1).bind (fun v1 => if v1 = 0 then (some (-1000000001)) else (if a2 = 0 then (xr_ld σ 12 7 a1 (fun v2 => some v2)) else if a2 = 1 then (xr_ld σ 13 7 a1 (fun v3 => some v3)) else if a2 = 2 then (xr_ld σ 14 7 a1 (fun v4 => some v4)) else if a2 = 3 then (xr_ld σ 18 7 a1 (fun v5 => some v5)) else if a2 = 4 then (xr_ld σ 19 7 a1 (fun v6 => some v6)) else if a2 = 5 then ((xf_X10_bit σ (σ.1 15 3) a1).bind (fun v7 => some v7)) else (some (-1000000002))))
set_option maxRecDepth 100000 in
set_option maxHeartbeats 4000000 in
theorem xc_X10_loaf (l : Launch) (D : va_G) (ad : Nat → Nat) (ca : Nat → ClassId) (σ : xr_S) (a1 : Int32) (a2 : Int32) (q : Int32) (hf : xf_X10_loaf σ a1 a2 = some q) : xr_M l D ad ca yX10_loaf cX10_loaf 3 (some .int) 1 21 [.ref (ad 0), .int a1, .int a2] σ (some (.int q)) σ := by
  refine xr_openI [some (.ref (ad 0)), some (.int a1), some (.int a2)] xm_X10_loaf (Nat.le_of_ble_eq_true rfl) rfl (fun J B RR => ?_)
  unfold xf_X10_loaf at hf
  refine xr_aload_n B dX10_loaf_0 rfl rfl ?_
  refine xr_getR B xg_X10_19 xh_0 rfl dX10_loaf_1 ?_
  refine xr_iload_n B dX10_loaf_4 rfl rfl ?_
  refine xr_cVi B (rest := []) [.int a1] xm_X7_hasLoaf xv_X10_171 (fun q hq => xc_X7_hasLoaf l D ad ca σ a1 q hq) xh_9 rfl rfl (by decide) rfl (Nat.le_of_ble_eq_true rfl) dX10_loaf_5 hf (fun v1 hf => ?_)
  refine xr_if_ne B (tgt := 14) dX10_loaf_8 (by decide) hf (fun _ hf => ?_) (fun _ hf => ?_)
  · refine xr_ldc B xk_X10_150 dX10_loaf_11 ?_
    obtain rfl := Option.some.inj hf
    exact RR _ _ _ dX10_loaf_13 rfl
  · refine xr_iload_n B dX10_loaf_14 rfl rfl ?_
    by_cases hc0 : a2 = 0
    · rw [if_pos hc0] at hf
      refine xr_tabI B (off := 37) (tgt := 52) dX10_loaf_15 (by rw [hc0]; decide) (by rw [hc0]; decide) (by rw [hc0]; decide) (by decide) ?_
      refine xr_aload_n B dX10_loaf_52 rfl rfl ?_
      refine xr_getR B xg_X10_19 xh_0 rfl dX10_loaf_53 ?_
      refine xr_getR B xg_X10_174 xh_9 rfl dX10_loaf_56 ?_
      refine xr_iload_n B dX10_loaf_59 rfl rfl ?_
      refine xq_iald B xh_12 dX10_loaf_60 hf (fun v2 hf => ?_)
      obtain rfl := Option.some.inj hf
      exact RR _ _ _ dX10_loaf_61 rfl
    rw [if_neg hc0] at hf
    by_cases hc1 : a2 = 1
    · rw [if_pos hc1] at hf
      refine xr_tabI B (off := 47) (tgt := 62) dX10_loaf_15 (by rw [hc1]; decide) (by rw [hc1]; decide) (by rw [hc1]; decide) (by decide) ?_
      refine xr_aload_n B dX10_loaf_62 rfl rfl ?_
      refine xr_getR B xg_X10_19 xh_0 rfl dX10_loaf_63 ?_
      refine xr_getR B xg_X10_178 xh_9 rfl dX10_loaf_66 ?_
      refine xr_iload_n B dX10_loaf_69 rfl rfl ?_
      refine xq_iald B xh_13 dX10_loaf_70 hf (fun v3 hf => ?_)
      obtain rfl := Option.some.inj hf
      exact RR _ _ _ dX10_loaf_71 rfl
    rw [if_neg hc1] at hf
    by_cases hc2 : a2 = 2
    · rw [if_pos hc2] at hf
      refine xr_tabI B (off := 57) (tgt := 72) dX10_loaf_15 (by rw [hc2]; decide) (by rw [hc2]; decide) (by rw [hc2]; decide) (by decide) ?_
      refine xr_aload_n B dX10_loaf_72 rfl rfl ?_
      refine xr_getR B xg_X10_19 xh_0 rfl dX10_loaf_73 ?_
      refine xr_getR B xg_X10_181 xh_9 rfl dX10_loaf_76 ?_
      refine xr_iload_n B dX10_loaf_79 rfl rfl ?_
      refine xq_iald B xh_14 dX10_loaf_80 hf (fun v4 hf => ?_)
      obtain rfl := Option.some.inj hf
      exact RR _ _ _ dX10_loaf_81 rfl
    rw [if_neg hc2] at hf
    by_cases hc3 : a2 = 3
    · rw [if_pos hc3] at hf
      refine xr_tabI B (off := 67) (tgt := 82) dX10_loaf_15 (by rw [hc3]; decide) (by rw [hc3]; decide) (by rw [hc3]; decide) (by decide) ?_
      refine xr_aload_n B dX10_loaf_82 rfl rfl ?_
      refine xr_getR B xg_X10_26 xh_0 rfl dX10_loaf_83 ?_
      refine xr_getR B xg_X10_184 xh_15 rfl dX10_loaf_86 ?_
      refine xr_iload_n B dX10_loaf_89 rfl rfl ?_
      refine xq_iald B xh_18 dX10_loaf_90 hf (fun v5 hf => ?_)
      obtain rfl := Option.some.inj hf
      exact RR _ _ _ dX10_loaf_91 rfl
    rw [if_neg hc3] at hf
    by_cases hc4 : a2 = 4
    · rw [if_pos hc4] at hf
      refine xr_tabI B (off := 77) (tgt := 92) dX10_loaf_15 (by rw [hc4]; decide) (by rw [hc4]; decide) (by rw [hc4]; decide) (by decide) ?_
      refine xr_aload_n B dX10_loaf_92 rfl rfl ?_
      refine xr_getR B xg_X10_26 xh_0 rfl dX10_loaf_93 ?_
      refine xr_getR B xg_X10_187 xh_15 rfl dX10_loaf_96 ?_
      refine xr_iload_n B dX10_loaf_99 rfl rfl ?_
      refine xq_iald B xh_19 dX10_loaf_100 hf (fun v6 hf => ?_)
      obtain rfl := Option.some.inj hf
      exact RR _ _ _ dX10_loaf_101 rfl
    rw [if_neg hc4] at hf
    by_cases hc5 : a2 = 5
    · rw [if_pos hc5] at hf
      refine xr_tabI B (off := 87) (tgt := 102) dX10_loaf_15 (by rw [hc5]; decide) (by rw [hc5]; decide) (by rw [hc5]; decide) (by decide) ?_
      refine xr_aload_n B dX10_loaf_102 rfl rfl ?_
      refine xr_getR B xg_X10_26 xh_0 rfl dX10_loaf_103 ?_
      refine xr_getI B xg_X10_141 xh_15 rfl dX10_loaf_106 ?_
      refine xr_iload_n B dX10_loaf_109 rfl rfl ?_
      refine xr_cSi B (rest := []) [.int (σ.1 15 3), .int a1] xm_X10_bit xs_X10_190 (fun q hq => xc_X10_bit l D ad ca σ (σ.1 15 3) a1 q hq) rfl (by decide) rfl (Nat.le_of_ble_eq_true rfl) dX10_loaf_110 hf (fun v7 hf => ?_)
      obtain rfl := Option.some.inj hf
      exact RR _ _ _ dX10_loaf_113 rfl
    rw [if_neg hc5] at hf
    refine xr_tabO B (tgt := 114) dX10_loaf_15 (xr_tout 5 (by decide) (fun j hj => ?_)) (by decide) ?_
    · match j, hj with
      | 0, _ => exact hc0
      | 1, _ => exact hc1
      | 2, _ => exact hc2
      | 3, _ => exact hc3
      | 4, _ => exact hc4
      | 5, _ => exact hc5
      | j + 6, hj => exact absurd hj (by omega)
    · refine xr_ldc B xk_X10_83 dX10_loaf_114 ?_
      obtain rfl := Option.some.inj hf
      exact RR _ _ _ dX10_loaf_116 rfl

noncomputable def xf_X10_worth (σ : xr_S) (a1 : Int32) (a2 : Int32) : Option Int32 := (xf_X7_hasLoaf σ a1).bind (fun v1 => if v1 = 0 then (some (-1000000001)) else ((xf_X7_hasSleeper σ a2).bind (fun v2 => if v2 = 0 then (some (-1000000001)) else (xr_ld σ 12 7 a1 (fun v3 => if v3 = a2 then (some (-1000000003)) else ((xf_X5_worthOn σ a1 a2).bind (fun v4 => some v4)))))))
set_option maxRecDepth 100000 in
set_option maxHeartbeats 4000000 in
theorem xc_X10_worth (l : Launch) (D : va_G) (ad : Nat → Nat) (ca : Nat → ClassId) (σ : xr_S) (a1 : Int32) (a2 : Int32) (q : Int32) (hf : xf_X10_worth σ a1 a2 = some q) : xr_M l D ad ca yX10_worth cX10_worth 3 (some .int) 2 47 [.ref (ad 0), .int a1, .int a2] σ (some (.int q)) σ := by
  refine xr_openI [some (.ref (ad 0)), some (.int a1), some (.int a2)] xm_X10_worth (Nat.le_of_ble_eq_true rfl) rfl (fun J B RR => ?_)
  unfold xf_X10_worth at hf
  refine xr_aload_n B dX10_worth_0 rfl rfl ?_
  refine xr_getR B xg_X10_19 xh_0 rfl dX10_worth_1 ?_
  refine xr_iload_n B dX10_worth_4 rfl rfl ?_
  refine xr_cVi B (rest := []) [.int a1] xm_X7_hasLoaf xv_X10_171 (fun q hq => xc_X7_hasLoaf l D ad ca σ a1 q hq) xh_9 rfl rfl (by decide) rfl (Nat.le_of_ble_eq_true rfl) dX10_worth_5 hf (fun v1 hf => ?_)
  refine xr_if_eq B (tgt := 22) dX10_worth_8 (by decide) hf (fun _ hf => ?_) (fun _ hf => ?_)
  · refine xr_ldc B xk_X10_150 dX10_worth_22 ?_
    obtain rfl := Option.some.inj hf
    exact RR _ _ _ dX10_worth_24 rfl
  · refine xr_aload_n B dX10_worth_11 rfl rfl ?_
    refine xr_getR B xg_X10_19 xh_0 rfl dX10_worth_12 ?_
    refine xr_iload_n B dX10_worth_15 rfl rfl ?_
    refine xr_cVi B (rest := []) [.int a2] xm_X7_hasSleeper xv_X10_144 (fun q hq => xc_X7_hasSleeper l D ad ca σ a2 q hq) xh_9 rfl rfl (by decide) rfl (Nat.le_of_ble_eq_true rfl) dX10_worth_16 hf (fun v2 hf => ?_)
    refine xr_if_ne B (tgt := 25) dX10_worth_19 (by decide) hf (fun _ hf => ?_) (fun _ hf => ?_)
    · refine xr_ldc B xk_X10_150 dX10_worth_22 ?_
      obtain rfl := Option.some.inj hf
      exact RR _ _ _ dX10_worth_24 rfl
    · refine xr_aload_n B dX10_worth_25 rfl rfl ?_
      refine xr_getR B xg_X10_19 xh_0 rfl dX10_worth_26 ?_
      refine xr_getR B xg_X10_174 xh_9 rfl dX10_worth_29 ?_
      refine xr_iload_n B dX10_worth_32 rfl rfl ?_
      refine xq_iald B xh_12 dX10_worth_33 hf (fun v3 hf => ?_)
      refine xr_iload_n B dX10_worth_34 rfl rfl ?_
      refine xr_ic_ne B (tgt := 43) dX10_worth_35 (by decide) hf (fun _ hf => ?_) (fun _ hf => ?_)
      · refine xr_ldc B xk_X10_193 dX10_worth_38 ?_
        refine xr_goto B (tgt := 56) dX10_worth_40 (by decide) ?_
        obtain rfl := Option.some.inj hf
        exact RR _ _ _ dX10_worth_56 rfl
      · refine xr_aload_n B dX10_worth_43 rfl rfl ?_
        refine xr_getR B xg_X10_26 xh_0 rfl dX10_worth_44 ?_
        refine xr_aload_n B dX10_worth_47 rfl rfl ?_
        refine xr_getR B xg_X10_19 xh_0 rfl dX10_worth_48 ?_
        refine xr_iload_n B dX10_worth_51 rfl rfl ?_
        refine xr_iload_n B dX10_worth_52 rfl rfl ?_
        refine xr_cVi B (rest := []) [.ref (ad 9), .int a1, .int a2] xm_X5_worthOn xv_X10_194 (fun q hq => xc_X5_worthOn l D ad ca σ a1 a2 q hq) xh_15 rfl rfl (by decide) rfl (Nat.le_of_ble_eq_true rfl) dX10_worth_53 hf (fun v4 hf => ?_)
        obtain rfl := Option.some.inj hf
        exact RR _ _ _ dX10_worth_56 rfl

noncomputable def xf_X10_lay (σ : xr_S) (a1 : Int32) (a2 : Int32) : Option (Int32 × xr_S) := (xf_X7_hasLoaf σ a1).bind (fun v1 => if v1 = 0 then (some ((-1000000001), σ)) else ((xf_X7_hasSleeper σ a2).bind (fun v2 => if v2 = 0 then (some ((-1000000001), σ)) else ((xf_X5_isFresh σ a1).bind (fun v3 => xr_jn (fun (w4 : Int32) => if w4 = 0 then (some ((-1000000003), σ)) else (xr_ld σ 12 7 a1 (fun v6 => if v6 = a2 then (some ((-1000000003), σ)) else ((xf_X5_loafOn σ a2).bind (fun v7 => if v7 = (-1) then (xr_st σ 18 7 a1 a2 (fun s8 => (xf_X5_lyingSet s8).bind (fun v9 => some (v9, s8)))) else (some ((-1000000003), σ))))))) (fun j5 => if v3 = 0 then (j5 0) else (xr_ld σ 18 7 a1 (fun v10 => if v10 = (-1) then (j5 1) else (j5 0)))))))))
set_option maxRecDepth 100000 in
set_option maxHeartbeats 4000000 in
theorem xc_X10_lay (l : Launch) (D : va_G) (ad : Nat → Nat) (ca : Nat → ClassId) (σ : xr_S) (a1 : Int32) (a2 : Int32) (q : (Int32 × xr_S)) (hf : xf_X10_lay σ a1 a2 = some q) : xr_M l D ad ca yX10_lay cX10_lay 4 (some .int) 2 42 [.ref (ad 0), .int a1, .int a2] σ (some (.int q.1)) q.2 := by
  refine xr_openI [some (.ref (ad 0)), some (.int a1), some (.int a2), none] xm_X10_lay (Nat.le_of_ble_eq_true rfl) rfl (fun J B RR => ?_)
  unfold xf_X10_lay at hf
  refine xr_aload_n B dX10_lay_0 rfl rfl ?_
  refine xr_getR B xg_X10_19 xh_0 rfl dX10_lay_1 ?_
  refine xr_iload_n B dX10_lay_4 rfl rfl ?_
  refine xr_cVi B (rest := []) [.int a1] xm_X7_hasLoaf xv_X10_171 (fun q hq => xc_X7_hasLoaf l D ad ca σ a1 q hq) xh_9 rfl rfl (by decide) rfl (Nat.le_of_ble_eq_true rfl) dX10_lay_5 hf (fun v1 hf => ?_)
  refine xr_if_eq B (tgt := 22) dX10_lay_8 (by decide) hf (fun _ hf => ?_) (fun _ hf => ?_)
  · refine xr_ldc B xk_X10_150 dX10_lay_22 ?_
    obtain rfl := Option.some.inj hf
    exact RR _ _ _ dX10_lay_24 rfl
  · refine xr_aload_n B dX10_lay_11 rfl rfl ?_
    refine xr_getR B xg_X10_19 xh_0 rfl dX10_lay_12 ?_
    refine xr_iload_n B dX10_lay_15 rfl rfl ?_
    refine xr_cVi B (rest := []) [.int a2] xm_X7_hasSleeper xv_X10_144 (fun q hq => xc_X7_hasSleeper l D ad ca σ a2 q hq) xh_9 rfl rfl (by decide) rfl (Nat.le_of_ble_eq_true rfl) dX10_lay_16 hf (fun v2 hf => ?_)
    refine xr_if_ne B (tgt := 25) dX10_lay_19 (by decide) hf (fun _ hf => ?_) (fun _ hf => ?_)
    · refine xr_ldc B xk_X10_150 dX10_lay_22 ?_
      obtain rfl := Option.some.inj hf
      exact RR _ _ _ dX10_lay_24 rfl
    · refine xr_aload_n B dX10_lay_25 rfl rfl ?_
      refine xr_getR B xg_X10_26 xh_0 rfl dX10_lay_26 ?_
      refine xr_iload_n B dX10_lay_29 rfl rfl ?_
      refine xr_cVi B (rest := []) [.int a1] xm_X5_isFresh xv_X10_198 (fun q hq => xc_X5_isFresh l D ad ca σ a1 q hq) xh_15 rfl rfl (by decide) rfl (Nat.le_of_ble_eq_true rfl) dX10_lay_30 hf (fun v3 hf => ?_)
      refine xr_meet (fun (w4 : Int32) => J 54 [some (.ref (ad 0)), some (.int a1), some (.int a2), none] [.int w4] σ) hf (fun w4 hf => ?_) (fun j5 hj5 hf => ?_)
      · refine xr_istore_n B (lv2 := [some (.ref (ad 0)), some (.int a1), some (.int a2), some (.int w4)]) dX10_lay_54 rfl (by decide) rfl ?_
        refine xr_iload_n B dX10_lay_55 rfl rfl ?_
        refine xr_if_eq B (tgt := 84) dX10_lay_56 (by decide) hf (fun _ hf => ?_) (fun _ hf => ?_)
        · refine xr_ldc B xk_X10_193 dX10_lay_84 ?_
          obtain rfl := Option.some.inj hf
          exact RR _ _ _ dX10_lay_86 rfl
        · refine xr_aload_n B dX10_lay_59 rfl rfl ?_
          refine xr_getR B xg_X10_19 xh_0 rfl dX10_lay_60 ?_
          refine xr_getR B xg_X10_174 xh_9 rfl dX10_lay_63 ?_
          refine xr_iload_n B dX10_lay_66 rfl rfl ?_
          refine xq_iald B xh_12 dX10_lay_67 hf (fun v6 hf => ?_)
          refine xr_iload_n B dX10_lay_68 rfl rfl ?_
          refine xr_ic_eq B (tgt := 84) dX10_lay_69 (by decide) hf (fun _ hf => ?_) (fun _ hf => ?_)
          · refine xr_ldc B xk_X10_193 dX10_lay_84 ?_
            obtain rfl := Option.some.inj hf
            exact RR _ _ _ dX10_lay_86 rfl
          · refine xr_aload_n B dX10_lay_72 rfl rfl ?_
            refine xr_getR B xg_X10_26 xh_0 rfl dX10_lay_73 ?_
            refine xr_iload_n B dX10_lay_76 rfl rfl ?_
            refine xr_cVi B (rest := []) [.int a2] xm_X5_loafOn xv_X10_201 (fun q hq => xc_X5_loafOn l D ad ca σ a2 q hq) xh_15 rfl rfl (by decide) rfl (Nat.le_of_ble_eq_true rfl) dX10_lay_77 hf (fun v7 hf => ?_)
            refine xr_iconst B (v := (-1)) dX10_lay_80 (by decide) ?_
            refine xr_ic_eq B (tgt := 87) dX10_lay_81 (by decide) hf (fun _ hf => ?_) (fun _ hf => ?_)
            · refine xr_aload_n B dX10_lay_87 rfl rfl ?_
              refine xr_getR B xg_X10_26 xh_0 rfl dX10_lay_88 ?_
              refine xr_getR B xg_X10_184 xh_15 rfl dX10_lay_91 ?_
              refine xr_iload_n B dX10_lay_94 rfl rfl ?_
              refine xr_iload_n B dX10_lay_95 rfl rfl ?_
              refine xq_iast B xh_18 dX10_lay_96 hf (fun s8 hf => ?_)
              refine xr_aload_n B dX10_lay_97 rfl rfl ?_
              refine xr_getR B xg_X10_26 xh_0 rfl dX10_lay_98 ?_
              refine xr_cVi B (rest := []) [] xm_X5_lyingSet xv_X10_135 (fun q hq => xc_X5_lyingSet l D ad ca s8 q hq) xh_15 rfl rfl (by decide) rfl (Nat.le_of_ble_eq_true rfl) dX10_lay_101 hf (fun v9 hf => ?_)
              obtain rfl := Option.some.inj hf
              exact RR _ _ _ dX10_lay_104 rfl
            · refine xr_ldc B xk_X10_193 dX10_lay_84 ?_
              obtain rfl := Option.some.inj hf
              exact RR _ _ _ dX10_lay_86 rfl
      · refine xr_if_eq B (tgt := 53) dX10_lay_33 (by decide) hf (fun _ hf => ?_) (fun _ hf => ?_)
        · refine xr_iconst B (v := 0) dX10_lay_53 (by decide) ?_
          exact hj5 0 hf
        · refine xr_aload_n B dX10_lay_36 rfl rfl ?_
          refine xr_getR B xg_X10_26 xh_0 rfl dX10_lay_37 ?_
          refine xr_getR B xg_X10_184 xh_15 rfl dX10_lay_40 ?_
          refine xr_iload_n B dX10_lay_43 rfl rfl ?_
          refine xq_iald B xh_18 dX10_lay_44 hf (fun v10 hf => ?_)
          refine xr_iconst B (v := (-1)) dX10_lay_45 (by decide) ?_
          refine xr_ic_ne B (tgt := 53) dX10_lay_46 (by decide) hf (fun _ hf => ?_) (fun _ hf => ?_)
          · refine xr_iconst B (v := 1) dX10_lay_49 (by decide) ?_
            refine xr_goto B (tgt := 54) dX10_lay_50 (by decide) ?_
            exact hj5 1 hf
          · refine xr_iconst B (v := 0) dX10_lay_53 (by decide) ?_
            exact hj5 0 hf

noncomputable def xf_X10_takeOff (σ : xr_S) (a1 : Int32) : Option (Int32 × xr_S) := (xf_X7_hasLoaf σ a1).bind (fun v1 => if v1 = 0 then (some ((-1000000001), σ)) else (xr_ld σ 18 7 a1 (fun v2 => if v2 = (-1) then (some ((-1000000003), σ)) else (xr_st σ 18 7 a1 (-1) (fun s3 => some (v2, s3))))))
set_option maxRecDepth 100000 in
set_option maxHeartbeats 4000000 in
theorem xc_X10_takeOff (l : Launch) (D : va_G) (ad : Nat → Nat) (ca : Nat → ClassId) (σ : xr_S) (a1 : Int32) (q : (Int32 × xr_S)) (hf : xf_X10_takeOff σ a1 = some q) : xr_M l D ad ca yX10_takeOff cX10_takeOff 3 (some .int) 1 21 [.ref (ad 0), .int a1] σ (some (.int q.1)) q.2 := by
  refine xr_openI [some (.ref (ad 0)), some (.int a1), none] xm_X10_takeOff (Nat.le_of_ble_eq_true rfl) rfl (fun J B RR => ?_)
  unfold xf_X10_takeOff at hf
  refine xr_aload_n B dX10_takeOff_0 rfl rfl ?_
  refine xr_getR B xg_X10_19 xh_0 rfl dX10_takeOff_1 ?_
  refine xr_iload_n B dX10_takeOff_4 rfl rfl ?_
  refine xr_cVi B (rest := []) [.int a1] xm_X7_hasLoaf xv_X10_171 (fun q hq => xc_X7_hasLoaf l D ad ca σ a1 q hq) xh_9 rfl rfl (by decide) rfl (Nat.le_of_ble_eq_true rfl) dX10_takeOff_5 hf (fun v1 hf => ?_)
  refine xr_if_ne B (tgt := 14) dX10_takeOff_8 (by decide) hf (fun _ hf => ?_) (fun _ hf => ?_)
  · refine xr_ldc B xk_X10_150 dX10_takeOff_11 ?_
    obtain rfl := Option.some.inj hf
    exact RR _ _ _ dX10_takeOff_13 rfl
  · refine xr_aload_n B dX10_takeOff_14 rfl rfl ?_
    refine xr_getR B xg_X10_26 xh_0 rfl dX10_takeOff_15 ?_
    refine xr_getR B xg_X10_184 xh_15 rfl dX10_takeOff_18 ?_
    refine xr_iload_n B dX10_takeOff_21 rfl rfl ?_
    refine xq_iald B xh_18 dX10_takeOff_22 hf (fun v2 hf => ?_)
    refine xr_istore_n B (lv2 := [some (.ref (ad 0)), some (.int a1), some (.int v2)]) dX10_takeOff_23 rfl (by decide) rfl ?_
    refine xr_iload_n B dX10_takeOff_24 rfl rfl ?_
    refine xr_iconst B (v := (-1)) dX10_takeOff_25 (by decide) ?_
    refine xr_ic_ne B (tgt := 32) dX10_takeOff_26 (by decide) hf (fun _ hf => ?_) (fun _ hf => ?_)
    · refine xr_ldc B xk_X10_193 dX10_takeOff_29 ?_
      obtain rfl := Option.some.inj hf
      exact RR _ _ _ dX10_takeOff_31 rfl
    · refine xr_aload_n B dX10_takeOff_32 rfl rfl ?_
      refine xr_getR B xg_X10_26 xh_0 rfl dX10_takeOff_33 ?_
      refine xr_getR B xg_X10_184 xh_15 rfl dX10_takeOff_36 ?_
      refine xr_iload_n B dX10_takeOff_39 rfl rfl ?_
      refine xr_iconst B (v := (-1)) dX10_takeOff_40 (by decide) ?_
      refine xq_iast B xh_18 dX10_takeOff_41 hf (fun s3 hf => ?_)
      refine xr_iload_n B dX10_takeOff_42 rfl rfl ?_
      obtain rfl := Option.some.inj hf
      exact RR _ _ _ dX10_takeOff_43 rfl

noncomputable def xf_X10_wake (σ : xr_S) (a1 : Int32) (a2 : Int32) : Option (Int32 × xr_S) := (xf_X7_hasSleeper σ a1).bind (fun v1 => if v1 = 0 then (some ((-1000000001), σ)) else ((xf_X10_bit σ (σ.1 15 4) a1).bind (fun v2 => xr_jn (fun (w3 : Int32) => xr_pf σ 15 4 w3 (fun s5 => some (v2, s5))) (fun j4 => if a2 = 0 then (j4 ((σ.1 15 4) &&& (((1 : Int32) <<< (a1 &&& 31)) ^^^ (-1)))) else (j4 ((σ.1 15 4) ||| ((1 : Int32) <<< (a1 &&& 31))))))))
set_option maxRecDepth 100000 in
set_option maxHeartbeats 4000000 in
theorem xc_X10_wake (l : Launch) (D : va_G) (ad : Nat → Nat) (ca : Nat → ClassId) (σ : xr_S) (a1 : Int32) (a2 : Int32) (q : (Int32 × xr_S)) (hf : xf_X10_wake σ a1 a2 = some q) : xr_M l D ad ca yX10_wake cX10_wake 4 (some .int) 1 21 [.ref (ad 0), .int a1, .int a2] σ (some (.int q.1)) q.2 := by
  refine xr_openI [some (.ref (ad 0)), some (.int a1), some (.int a2), none] xm_X10_wake (Nat.le_of_ble_eq_true rfl) rfl (fun J B RR => ?_)
  unfold xf_X10_wake at hf
  refine xr_aload_n B dX10_wake_0 rfl rfl ?_
  refine xr_getR B xg_X10_19 xh_0 rfl dX10_wake_1 ?_
  refine xr_iload_n B dX10_wake_4 rfl rfl ?_
  refine xr_cVi B (rest := []) [.int a1] xm_X7_hasSleeper xv_X10_144 (fun q hq => xc_X7_hasSleeper l D ad ca σ a1 q hq) xh_9 rfl rfl (by decide) rfl (Nat.le_of_ble_eq_true rfl) dX10_wake_5 hf (fun v1 hf => ?_)
  refine xr_if_ne B (tgt := 14) dX10_wake_8 (by decide) hf (fun _ hf => ?_) (fun _ hf => ?_)
  · refine xr_ldc B xk_X10_150 dX10_wake_11 ?_
    obtain rfl := Option.some.inj hf
    exact RR _ _ _ dX10_wake_13 rfl
  · refine xr_aload_n B dX10_wake_14 rfl rfl ?_
    refine xr_getR B xg_X10_26 xh_0 rfl dX10_wake_15 ?_
    refine xr_getI B xg_X10_132 xh_15 rfl dX10_wake_18 ?_
    refine xr_iload_n B dX10_wake_21 rfl rfl ?_
    refine xr_cSi B (rest := []) [.int (σ.1 15 4), .int a1] xm_X10_bit xs_X10_190 (fun q hq => xc_X10_bit l D ad ca σ (σ.1 15 4) a1 q hq) rfl (by decide) rfl (Nat.le_of_ble_eq_true rfl) dX10_wake_22 hf (fun v2 hf => ?_)
    refine xr_istore_n B (lv2 := [some (.ref (ad 0)), some (.int a1), some (.int a2), some (.int v2)]) dX10_wake_25 rfl (by decide) rfl ?_
    refine xr_aload_n B dX10_wake_26 rfl rfl ?_
    refine xr_getR B xg_X10_26 xh_0 rfl dX10_wake_27 ?_
    refine xr_iload_n B dX10_wake_30 rfl rfl ?_
    refine xr_meet (fun (w3 : Int32) => J 61 [none, none, none, some (.int v2)] [.int w3, .ref (ad 15)] σ) hf (fun w3 hf => ?_) (fun j4 hj4 hf => ?_)
    · refine xq_put B xp_X10_132 rfl rfl xh_15 rfl dX10_wake_61 hf (fun s5 hf => ?_)
      refine xr_iload_n B dX10_wake_64 rfl rfl ?_
      obtain rfl := Option.some.inj hf
      exact RR _ _ _ dX10_wake_65 rfl
    · refine xr_if_eq B (tgt := 48) dX10_wake_31 (by decide) hf (fun _ hf => ?_) (fun _ hf => ?_)
      · refine xr_aload_n B dX10_wake_48 rfl rfl ?_
        refine xr_getR B xg_X10_26 xh_0 rfl dX10_wake_49 ?_
        refine xr_getI B xg_X10_132 xh_15 rfl dX10_wake_52 ?_
        refine xr_iconst B (v := 1) dX10_wake_55 (by decide) ?_
        refine xr_iload_n B dX10_wake_56 rfl rfl ?_
        refine xr_ishl B dX10_wake_57 ?_
        refine xr_iconst B (v := (-1)) dX10_wake_58 (by decide) ?_
        refine xr_ixor B dX10_wake_59 ?_
        refine xr_iand B dX10_wake_60 ?_
        refine xr_forget B (lv2 := [none, none, none, some (.int v2)]) ⟨rfl, trivial⟩ ?_
        exact hj4 ((σ.1 15 4) &&& (((1 : Int32) <<< (a1 &&& 31)) ^^^ (-1))) hf
      · refine xr_aload_n B dX10_wake_34 rfl rfl ?_
        refine xr_getR B xg_X10_26 xh_0 rfl dX10_wake_35 ?_
        refine xr_getI B xg_X10_132 xh_15 rfl dX10_wake_38 ?_
        refine xr_iconst B (v := 1) dX10_wake_41 (by decide) ?_
        refine xr_iload_n B dX10_wake_42 rfl rfl ?_
        refine xr_ishl B dX10_wake_43 ?_
        refine xr_ior B dX10_wake_44 ?_
        refine xr_goto B (tgt := 61) dX10_wake_45 (by decide) ?_
        refine xr_forget B (lv2 := [none, none, none, some (.int v2)]) ⟨rfl, trivial⟩ ?_
        exact hj4 ((σ.1 15 4) ||| ((1 : Int32) <<< (a1 &&& 31))) hf

noncomputable def xf_X10_night_L44 (a1 : Int32) (K4 : xr_S → Option (Int32 × xr_S)) (t1 : (Int32 × xr_S)) (rec2 : (Int32 × xr_S) → Option (Int32 × xr_S)) : Option (Int32 × xr_S) := if a1 ≤ t1.1 then (K4 t1.2) else ((xf_X5_sleepOnce t1.2).bind (fun s5 => rec2 ((t1.1 + 1), s5)))
noncomputable def xf_X10_night (σ : xr_S) (a1 : Int32) : Option (Int32 × xr_S) := if a1 < 1 then (some ((-1000000002), σ)) else (if a1 ≤ 30 then (if (σ.1 9 0) = 0 then (some ((-1000000003), σ)) else (if (σ.1 15 5) ≤ 90000 then (xr_lw (xf_X10_night_L44 a1 (fun (e3 : xr_S) => (xf_X5_sleptOnSet e3).bind (fun v7 => some (v7, e3)))) (0, σ)) else (some ((-1000000004), σ)))) else (some ((-1000000002), σ)))
set_option maxRecDepth 100000 in
set_option maxHeartbeats 4000000 in
theorem xc_X10_night (l : Launch) (D : va_G) (ad : Nat → Nat) (ca : Nat → ClassId) (σ : xr_S) (a1 : Int32) (q : (Int32 × xr_S)) (hf : xf_X10_night σ a1 = some q) : xr_M l D ad ca yX10_night cX10_night 3 (some .int) 3 71 [.ref (ad 0), .int a1] σ (some (.int q.1)) q.2 := by
  refine xr_openI [some (.ref (ad 0)), some (.int a1), none] xm_X10_night (Nat.le_of_ble_eq_true rfl) rfl (fun J B RR => ?_)
  unfold xf_X10_night at hf
  refine xr_iload_n B dX10_night_0 rfl rfl ?_
  refine xr_iconst B (v := 1) dX10_night_1 (by decide) ?_
  refine xr_ic_lt B (tgt := 11) dX10_night_2 (by decide) hf (fun _ hf => ?_) (fun _ hf => ?_)
  · refine xr_ldc B xk_X10_83 dX10_night_11 ?_
    obtain rfl := Option.some.inj hf
    exact RR _ _ _ dX10_night_13 rfl
  · refine xr_iload_n B dX10_night_5 rfl rfl ?_
    refine xr_bipush B (v := 30) dX10_night_6 (by decide) ?_
    refine xr_ic_le B (tgt := 14) dX10_night_8 (by decide) hf (fun _ hf => ?_) (fun _ hf => ?_)
    · refine xr_aload_n B dX10_night_14 rfl rfl ?_
      refine xr_getR B xg_X10_19 xh_0 rfl dX10_night_15 ?_
      refine xr_getI B xg_X10_114 xh_9 rfl dX10_night_18 ?_
      refine xr_if_ne B (tgt := 27) dX10_night_21 (by decide) hf (fun _ hf => ?_) (fun _ hf => ?_)
      · refine xr_ldc B xk_X10_193 dX10_night_24 ?_
        obtain rfl := Option.some.inj hf
        exact RR _ _ _ dX10_night_26 rfl
      · refine xr_aload_n B dX10_night_27 rfl rfl ?_
        refine xr_getR B xg_X10_26 xh_0 rfl dX10_night_28 ?_
        refine xr_getI B xg_X10_126 xh_15 rfl dX10_night_31 ?_
        refine xr_ldc B xk_X10_204 dX10_night_34 ?_
        refine xr_ic_le B (tgt := 42) dX10_night_36 (by decide) hf (fun _ hf => ?_) (fun _ hf => ?_)
        · refine xr_iconst B (v := 0) dX10_night_42 (by decide) ?_
          refine xr_istore_n B (lv2 := [some (.ref (ad 0)), some (.int a1), some (.int 0)]) dX10_night_43 rfl (by decide) rfl ?_
          refine xq_loop (fun (t1 : (Int32 × xr_S)) => J 44 [some (.ref (ad 0)), some (.int a1), some (.int t1.1)] [] t1.2) (fun (e3 : xr_S) => J 66 [some (.ref (ad 0)), none, none] [] e3) hf (fun e3 hf => ?_) (fun K4 hK4 t1 rec2 hrec2 hf => ?_)
          · refine xr_aload_n B dX10_night_66 rfl rfl ?_
            refine xr_getR B xg_X10_26 xh_0 rfl dX10_night_67 ?_
            refine xr_cVi B (rest := []) [] xm_X5_sleptOnSet xv_X10_138 (fun q hq => xc_X5_sleptOnSet l D ad ca e3 q hq) xh_15 rfl rfl (by decide) rfl (Nat.le_of_ble_eq_true rfl) dX10_night_70 hf (fun v7 hf => ?_)
            obtain rfl := Option.some.inj hf
            exact RR _ _ _ dX10_night_73 rfl
          · have hrec2 : ∀ (b1 : Int32) (b2 : xr_S), rec2 (b1, b2) = some q → J 44 [some (.ref (ad 0)), some (.int a1), some (.int b1)] [] b2 := fun b1 b2 h => hrec2 (b1, b2) h
            unfold xf_X10_night_L44 at hf
            refine xr_iload_n B dX10_night_44 rfl rfl ?_
            refine xr_iload_n B dX10_night_45 rfl rfl ?_
            refine xr_ic_ge B (tgt := 66) dX10_night_46 (by decide) hf (fun _ hf => ?_) (fun _ hf => ?_)
            · refine xr_forget B (lv2 := [some (.ref (ad 0)), none, none]) ⟨rfl, trivial⟩ ?_
              exact hK4 t1.2 hf
            · refine xr_aload_n B dX10_night_49 rfl rfl ?_
              refine xr_getR B xg_X10_26 xh_0 rfl dX10_night_50 ?_
              refine xr_aload_n B dX10_night_53 rfl rfl ?_
              refine xr_getR B xg_X10_19 xh_0 rfl dX10_night_54 ?_
              refine xr_cVv B (rest := []) [.ref (ad 9)] xm_X5_sleepOnce xv_X10_205 (fun q hq => xc_X5_sleepOnce l D ad ca t1.2 q hq) xh_15 rfl rfl (by decide) rfl (Nat.le_of_ble_eq_true rfl) dX10_night_57 hf (fun s5 hf => ?_)
              refine xr_iinc B (v := (t1.1 + 1)) (lv2 := [some (.ref (ad 0)), some (.int a1), some (.int (t1.1 + 1))]) dX10_night_60 rfl (congrArg (t1.1 + ·) (by decide : Int32.ofInt (1) = 1)) (by decide) rfl ?_
              refine xr_goto B (tgt := 44) dX10_night_63 (by decide) ?_
              exact hrec2 (t1.1 + 1) s5 hf
        · refine xr_ldc B xk_X10_91 dX10_night_39 ?_
          obtain rfl := Option.some.inj hf
          exact RR _ _ _ dX10_night_41 rfl
    · refine xr_ldc B xk_X10_83 dX10_night_11 ?_
      obtain rfl := Option.some.inj hf
      exact RR _ _ _ dX10_night_13 rfl

noncomputable def xf_X10_eat (σ : xr_S) (a1 : Int32) : Option (Int32 × xr_S) := (xf_X7_hasLoaf σ a1).bind (fun v1 => if v1 = 0 then (some ((-1000000001), σ)) else ((xf_X5_isFresh σ a1).bind (fun v2 => if v2 = 0 then ((xf_X5_consume σ a1).bind (fun s3 => some ((s3.1 15 6), s3))) else (some ((-1000000003), σ)))))
set_option maxRecDepth 100000 in
set_option maxHeartbeats 4000000 in
theorem xc_X10_eat (l : Launch) (D : va_G) (ad : Nat → Nat) (ca : Nat → ClassId) (σ : xr_S) (a1 : Int32) (q : (Int32 × xr_S)) (hf : xf_X10_eat σ a1 = some q) : xr_M l D ad ca yX10_eat cX10_eat 2 (some .int) 3 70 [.ref (ad 0), .int a1] σ (some (.int q.1)) q.2 := by
  refine xr_openI [some (.ref (ad 0)), some (.int a1)] xm_X10_eat (Nat.le_of_ble_eq_true rfl) rfl (fun J B RR => ?_)
  unfold xf_X10_eat at hf
  refine xr_aload_n B dX10_eat_0 rfl rfl ?_
  refine xr_getR B xg_X10_19 xh_0 rfl dX10_eat_1 ?_
  refine xr_iload_n B dX10_eat_4 rfl rfl ?_
  refine xr_cVi B (rest := []) [.int a1] xm_X7_hasLoaf xv_X10_171 (fun q hq => xc_X7_hasLoaf l D ad ca σ a1 q hq) xh_9 rfl rfl (by decide) rfl (Nat.le_of_ble_eq_true rfl) dX10_eat_5 hf (fun v1 hf => ?_)
  refine xr_if_ne B (tgt := 14) dX10_eat_8 (by decide) hf (fun _ hf => ?_) (fun _ hf => ?_)
  · refine xr_ldc B xk_X10_150 dX10_eat_11 ?_
    obtain rfl := Option.some.inj hf
    exact RR _ _ _ dX10_eat_13 rfl
  · refine xr_aload_n B dX10_eat_14 rfl rfl ?_
    refine xr_getR B xg_X10_26 xh_0 rfl dX10_eat_15 ?_
    refine xr_iload_n B dX10_eat_18 rfl rfl ?_
    refine xr_cVi B (rest := []) [.int a1] xm_X5_isFresh xv_X10_198 (fun q hq => xc_X5_isFresh l D ad ca σ a1 q hq) xh_15 rfl rfl (by decide) rfl (Nat.le_of_ble_eq_true rfl) dX10_eat_19 hf (fun v2 hf => ?_)
    refine xr_if_eq B (tgt := 28) dX10_eat_22 (by decide) hf (fun _ hf => ?_) (fun _ hf => ?_)
    · refine xr_aload_n B dX10_eat_28 rfl rfl ?_
      refine xr_getR B xg_X10_26 xh_0 rfl dX10_eat_29 ?_
      refine xr_aload_n B dX10_eat_32 rfl rfl ?_
      refine xr_getR B xg_X10_19 xh_0 rfl dX10_eat_33 ?_
      refine xr_iload_n B dX10_eat_36 rfl rfl ?_
      refine xr_cVv B (rest := []) [.ref (ad 9), .int a1] xm_X5_consume xv_X10_208 (fun q hq => xc_X5_consume l D ad ca σ a1 q hq) xh_15 rfl rfl (by decide) rfl (Nat.le_of_ble_eq_true rfl) dX10_eat_37 hf (fun s3 hf => ?_)
      refine xr_aload_n B dX10_eat_40 rfl rfl ?_
      refine xr_getR B xg_X10_26 xh_0 rfl dX10_eat_41 ?_
      refine xr_getI B xg_X10_129 xh_15 rfl dX10_eat_44 ?_
      obtain rfl := Option.some.inj hf
      exact RR _ _ _ dX10_eat_47 rfl
    · refine xr_ldc B xk_X10_193 dX10_eat_25 ?_
      obtain rfl := Option.some.inj hf
      exact RR _ _ _ dX10_eat_27 rfl

noncomputable def xf_X10_salt (σ : xr_S) (a1 : Int32) : Option (Int32 × xr_S) := (xf_X7_hasLoaf σ a1).bind (fun v1 => if v1 = 0 then (some ((-1000000001), σ)) else ((xf_X10_bit σ (σ.1 15 3) a1).bind (fun v2 => xr_pf σ 15 3 ((σ.1 15 3) ||| ((1 : Int32) <<< (a1 &&& 31))) (fun s3 => some (v2, s3)))))
set_option maxRecDepth 100000 in
set_option maxHeartbeats 4000000 in
theorem xc_X10_salt (l : Launch) (D : va_G) (ad : Nat → Nat) (ca : Nat → ClassId) (σ : xr_S) (a1 : Int32) (q : (Int32 × xr_S)) (hf : xf_X10_salt σ a1 = some q) : xr_M l D ad ca yX10_salt cX10_salt 3 (some .int) 1 21 [.ref (ad 0), .int a1] σ (some (.int q.1)) q.2 := by
  refine xr_openI [some (.ref (ad 0)), some (.int a1), none] xm_X10_salt (Nat.le_of_ble_eq_true rfl) rfl (fun J B RR => ?_)
  unfold xf_X10_salt at hf
  refine xr_aload_n B dX10_salt_0 rfl rfl ?_
  refine xr_getR B xg_X10_19 xh_0 rfl dX10_salt_1 ?_
  refine xr_iload_n B dX10_salt_4 rfl rfl ?_
  refine xr_cVi B (rest := []) [.int a1] xm_X7_hasLoaf xv_X10_171 (fun q hq => xc_X7_hasLoaf l D ad ca σ a1 q hq) xh_9 rfl rfl (by decide) rfl (Nat.le_of_ble_eq_true rfl) dX10_salt_5 hf (fun v1 hf => ?_)
  refine xr_if_ne B (tgt := 14) dX10_salt_8 (by decide) hf (fun _ hf => ?_) (fun _ hf => ?_)
  · refine xr_ldc B xk_X10_150 dX10_salt_11 ?_
    obtain rfl := Option.some.inj hf
    exact RR _ _ _ dX10_salt_13 rfl
  · refine xr_aload_n B dX10_salt_14 rfl rfl ?_
    refine xr_getR B xg_X10_26 xh_0 rfl dX10_salt_15 ?_
    refine xr_getI B xg_X10_141 xh_15 rfl dX10_salt_18 ?_
    refine xr_iload_n B dX10_salt_21 rfl rfl ?_
    refine xr_cSi B (rest := []) [.int (σ.1 15 3), .int a1] xm_X10_bit xs_X10_190 (fun q hq => xc_X10_bit l D ad ca σ (σ.1 15 3) a1 q hq) rfl (by decide) rfl (Nat.le_of_ble_eq_true rfl) dX10_salt_22 hf (fun v2 hf => ?_)
    refine xr_istore_n B (lv2 := [some (.ref (ad 0)), some (.int a1), some (.int v2)]) dX10_salt_25 rfl (by decide) rfl ?_
    refine xr_aload_n B dX10_salt_26 rfl rfl ?_
    refine xr_getR B xg_X10_26 xh_0 rfl dX10_salt_27 ?_
    refine xr_dup B dX10_salt_30 rfl ?_
    refine xr_getI B xg_X10_141 xh_15 rfl dX10_salt_31 ?_
    refine xr_iconst B (v := 1) dX10_salt_34 (by decide) ?_
    refine xr_iload_n B dX10_salt_35 rfl rfl ?_
    refine xr_ishl B dX10_salt_36 ?_
    refine xr_ior B dX10_salt_37 ?_
    refine xq_put B xp_X10_141 rfl rfl xh_15 rfl dX10_salt_38 hf (fun s3 hf => ?_)
    refine xr_iload_n B dX10_salt_41 rfl rfl ?_
    obtain rfl := Option.some.inj hf
    exact RR _ _ _ dX10_salt_42 rfl

noncomputable def xf_X10_beds (σ : xr_S) (a1 : Int32) : Option (Int32 × xr_S) := xr_jn (fun (w1 : Unit) => (xf_X0_make σ).bind (fun s3 => if a1 = (-1) then (some ((s3.1 31 0), s3)) else (xr_ld s3 32 7 a1 (fun v4 => some (v4, s3))))) (fun j2 => if a1 = (-1) then (j2 ()) else ((xf_X7_hasLoaf σ a1).bind (fun v5 => if v5 = 0 then (some ((-1000000001), σ)) else (j2 ()))))
set_option maxRecDepth 100000 in
set_option maxHeartbeats 4000000 in
theorem xc_X10_beds (l : Launch) (D : va_G) (ad : Nat → Nat) (ca : Nat → ClassId) (σ : xr_S) (a1 : Int32) (q : (Int32 × xr_S)) (hf : xf_X10_beds σ a1 = some q) : xr_M l D ad ca yX10_beds cX10_beds 2 (some .int) 5 121 [.ref (ad 0), .int a1] σ (some (.int q.1)) q.2 := by
  refine xr_openI [some (.ref (ad 0)), some (.int a1)] xm_X10_beds (Nat.le_of_ble_eq_true rfl) rfl (fun J B RR => ?_)
  unfold xf_X10_beds at hf
  refine xr_iload_n B dX10_beds_0 rfl rfl ?_
  refine xr_iconst B (v := (-1)) dX10_beds_1 (by decide) ?_
  refine xr_meet (fun (w1 : Unit) => J 19 [some (.ref (ad 0)), some (.int a1)] [] σ) hf (fun w1 hf => ?_) (fun j2 hj2 hf => ?_)
  · refine xr_aload_n B dX10_beds_19 rfl rfl ?_
    refine xr_getR B xg_X10_37 xh_0 rfl dX10_beds_20 ?_
    refine xr_aload_n B dX10_beds_23 rfl rfl ?_
    refine xr_getR B xg_X10_19 xh_0 rfl dX10_beds_24 ?_
    refine xr_aload_n B dX10_beds_27 rfl rfl ?_
    refine xr_getR B xg_X10_26 xh_0 rfl dX10_beds_28 ?_
    refine xr_cVv B (rest := []) [.ref (ad 9), .ref (ad 15)] xm_X0_make xv_X10_212 (fun q hq => xc_X0_make l D ad ca σ q hq) xh_31 rfl rfl (by decide) rfl (Nat.le_of_ble_eq_true rfl) dX10_beds_31 hf (fun s3 hf => ?_)
    refine xr_iload_n B dX10_beds_34 rfl rfl ?_
    refine xr_iconst B (v := (-1)) dX10_beds_35 (by decide) ?_
    refine xr_ic_ne B (tgt := 49) dX10_beds_36 (by decide) hf (fun _ hf => ?_) (fun _ hf => ?_)
    · refine xr_aload_n B dX10_beds_39 rfl rfl ?_
      refine xr_getR B xg_X10_37 xh_0 rfl dX10_beds_40 ?_
      refine xr_getI B xg_X10_216 xh_31 rfl dX10_beds_43 ?_
      refine xr_goto B (tgt := 58) dX10_beds_46 (by decide) ?_
      obtain rfl := Option.some.inj hf
      exact RR _ _ _ dX10_beds_58 rfl
    · refine xr_aload_n B dX10_beds_49 rfl rfl ?_
      refine xr_getR B xg_X10_37 xh_0 rfl dX10_beds_50 ?_
      refine xr_getR B xg_X10_219 xh_31 rfl dX10_beds_53 ?_
      refine xr_iload_n B dX10_beds_56 rfl rfl ?_
      refine xq_iald B xh_32 dX10_beds_57 hf (fun v4 hf => ?_)
      obtain rfl := Option.some.inj hf
      exact RR _ _ _ dX10_beds_58 rfl
  · refine xr_ic_eq B (tgt := 19) dX10_beds_2 (by decide) hf (fun _ hf => ?_) (fun _ hf => ?_)
    · exact hj2 () hf
    · refine xr_aload_n B dX10_beds_5 rfl rfl ?_
      refine xr_getR B xg_X10_19 xh_0 rfl dX10_beds_6 ?_
      refine xr_iload_n B dX10_beds_9 rfl rfl ?_
      refine xr_cVi B (rest := []) [.int a1] xm_X7_hasLoaf xv_X10_171 (fun q hq => xc_X7_hasLoaf l D ad ca σ a1 q hq) xh_9 rfl rfl (by decide) rfl (Nat.le_of_ble_eq_true rfl) dX10_beds_10 hf (fun v5 hf => ?_)
      refine xr_if_ne B (tgt := 19) dX10_beds_13 (by decide) hf (fun _ hf => ?_) (fun _ hf => ?_)
      · refine xr_ldc B xk_X10_150 dX10_beds_16 ?_
        obtain rfl := Option.some.inj hf
        exact RR _ _ _ dX10_beds_18 rfl
      · exact hj2 () hf

noncomputable def xf_X10_feedings (σ : xr_S) (a1 : Int32) (a2 : Int32) : Option (Int32 × xr_S) := (xf_X7_hasSleeper σ a1).bind (fun v1 => if v1 = 0 then (some ((-1000000001), σ)) else ((xf_X7_hasDream σ a2).bind (fun v2 => if v2 = 0 then (some ((-1000000001), σ)) else ((xf_X4_fewestLoaves σ a1 a2).bind (fun p3 => some (p3.1, p3.2))))))
set_option maxRecDepth 100000 in
set_option maxHeartbeats 4000000 in
theorem xc_X10_feedings (l : Launch) (D : va_G) (ad : Nat → Nat) (ca : Nat → ClassId) (σ : xr_S) (a1 : Int32) (a2 : Int32) (q : (Int32 × xr_S)) (hf : xf_X10_feedings σ a1 a2 = some q) : xr_M l D ad ca yX10_feedings cX10_feedings 3 (some .int) 3 73 [.ref (ad 0), .int a1, .int a2] σ (some (.int q.1)) q.2 := by
  refine xr_openI [some (.ref (ad 0)), some (.int a1), some (.int a2)] xm_X10_feedings (Nat.le_of_ble_eq_true rfl) rfl (fun J B RR => ?_)
  unfold xf_X10_feedings at hf
  refine xr_aload_n B dX10_feedings_0 rfl rfl ?_
  refine xr_getR B xg_X10_19 xh_0 rfl dX10_feedings_1 ?_
  refine xr_iload_n B dX10_feedings_4 rfl rfl ?_
  refine xr_cVi B (rest := []) [.int a1] xm_X7_hasSleeper xv_X10_144 (fun q hq => xc_X7_hasSleeper l D ad ca σ a1 q hq) xh_9 rfl rfl (by decide) rfl (Nat.le_of_ble_eq_true rfl) dX10_feedings_5 hf (fun v1 hf => ?_)
  refine xr_if_eq B (tgt := 22) dX10_feedings_8 (by decide) hf (fun _ hf => ?_) (fun _ hf => ?_)
  · refine xr_ldc B xk_X10_150 dX10_feedings_22 ?_
    obtain rfl := Option.some.inj hf
    exact RR _ _ _ dX10_feedings_24 rfl
  · refine xr_aload_n B dX10_feedings_11 rfl rfl ?_
    refine xr_getR B xg_X10_19 xh_0 rfl dX10_feedings_12 ?_
    refine xr_iload_n B dX10_feedings_15 rfl rfl ?_
    refine xr_cVi B (rest := []) [.int a2] xm_X7_hasDream xv_X10_147 (fun q hq => xc_X7_hasDream l D ad ca σ a2 q hq) xh_9 rfl rfl (by decide) rfl (Nat.le_of_ble_eq_true rfl) dX10_feedings_16 hf (fun v2 hf => ?_)
    refine xr_if_ne B (tgt := 25) dX10_feedings_19 (by decide) hf (fun _ hf => ?_) (fun _ hf => ?_)
    · refine xr_ldc B xk_X10_150 dX10_feedings_22 ?_
      obtain rfl := Option.some.inj hf
      exact RR _ _ _ dX10_feedings_24 rfl
    · refine xr_aload_n B dX10_feedings_25 rfl rfl ?_
      refine xr_getR B xg_X10_44 xh_0 rfl dX10_feedings_26 ?_
      refine xr_aload_n B dX10_feedings_29 rfl rfl ?_
      refine xr_getR B xg_X10_19 xh_0 rfl dX10_feedings_30 ?_
      refine xr_aload_n B dX10_feedings_33 rfl rfl ?_
      refine xr_getR B xg_X10_26 xh_0 rfl dX10_feedings_34 ?_
      refine xr_iload_n B dX10_feedings_37 rfl rfl ?_
      refine xr_iload_n B dX10_feedings_38 rfl rfl ?_
      refine xr_cVI B (rest := []) [.ref (ad 9), .ref (ad 15), .int a1, .int a2] xm_X4_fewestLoaves xv_X10_222 (fun q hq => xc_X4_fewestLoaves l D ad ca σ a1 a2 q hq) xh_35 rfl rfl (by decide) rfl (Nat.le_of_ble_eq_true rfl) dX10_feedings_39 hf (fun p3 hf => ?_)
      obtain rfl := Option.some.inj hf
      exact RR _ _ _ dX10_feedings_42 rfl

noncomputable def xf_X10_foretold (σ : xr_S) (a1 : Int32) (a2 : Int32) (a3 : Int32) : Option (Int32 × xr_S) := (xf_X7_hasSleeper σ a1).bind (fun v1 => if v1 = 0 then (some ((-1000000001), σ)) else (xr_jn (fun (w2 : Unit) => if a3 < 0 then (some ((-1000000002), σ)) else (if a3 ≤ 200 then ((xf_X0_make σ).bind (fun s4 => (xf_X4_run s4 0 a3).bind (fun p5 => if a2 = (-1) then ((xf_X9_top p5.2 36 a1).bind (fun v6 => some (v6, p5.2))) else ((xf_X9_of p5.2 36 a1 a2).bind (fun v7 => some (v7, p5.2)))))) else (some ((-1000000002), σ)))) (fun j3 => if a2 = (-1) then (j3 ()) else ((xf_X7_hasDream σ a2).bind (fun v8 => if v8 = 0 then (some ((-1000000001), σ)) else (j3 ()))))))
set_option maxRecDepth 100000 in
set_option maxHeartbeats 4000000 in
theorem xc_X10_foretold (l : Launch) (D : va_G) (ad : Nat → Nat) (ca : Nat → ClassId) (σ : xr_S) (a1 : Int32) (a2 : Int32) (a3 : Int32) (q : (Int32 × xr_S)) (hf : xf_X10_foretold σ a1 a2 a3 = some q) : xr_M l D ad ca yX10_foretold cX10_foretold 4 (some .int) 5 121 [.ref (ad 0), .int a1, .int a2, .int a3] σ (some (.int q.1)) q.2 := by
  refine xr_openI [some (.ref (ad 0)), some (.int a1), some (.int a2), some (.int a3)] xm_X10_foretold (Nat.le_of_ble_eq_true rfl) rfl (fun J B RR => ?_)
  unfold xf_X10_foretold at hf
  refine xr_aload_n B dX10_foretold_0 rfl rfl ?_
  refine xr_getR B xg_X10_19 xh_0 rfl dX10_foretold_1 ?_
  refine xr_iload_n B dX10_foretold_4 rfl rfl ?_
  refine xr_cVi B (rest := []) [.int a1] xm_X7_hasSleeper xv_X10_144 (fun q hq => xc_X7_hasSleeper l D ad ca σ a1 q hq) xh_9 rfl rfl (by decide) rfl (Nat.le_of_ble_eq_true rfl) dX10_foretold_5 hf (fun v1 hf => ?_)
  refine xr_if_eq B (tgt := 27) dX10_foretold_8 (by decide) hf (fun _ hf => ?_) (fun _ hf => ?_)
  · refine xr_ldc B xk_X10_150 dX10_foretold_27 ?_
    obtain rfl := Option.some.inj hf
    exact RR _ _ _ dX10_foretold_29 rfl
  · refine xr_iload_n B dX10_foretold_11 rfl rfl ?_
    refine xr_iconst B (v := (-1)) dX10_foretold_12 (by decide) ?_
    refine xr_meet (fun (w2 : Unit) => J 30 [some (.ref (ad 0)), some (.int a1), some (.int a2), some (.int a3)] [] σ) hf (fun w2 hf => ?_) (fun j3 hj3 hf => ?_)
    · refine xr_iload_n B dX10_foretold_30 rfl rfl ?_
      refine xr_if_lt B (tgt := 41) dX10_foretold_31 (by decide) hf (fun _ hf => ?_) (fun _ hf => ?_)
      · refine xr_ldc B xk_X10_83 dX10_foretold_41 ?_
        obtain rfl := Option.some.inj hf
        exact RR _ _ _ dX10_foretold_43 rfl
      · refine xr_iload_n B dX10_foretold_34 rfl rfl ?_
        refine xr_sipush B (v := 200) dX10_foretold_35 (by decide) ?_
        refine xr_ic_le B (tgt := 44) dX10_foretold_38 (by decide) hf (fun _ hf => ?_) (fun _ hf => ?_)
        · refine xr_aload_n B dX10_foretold_44 rfl rfl ?_
          refine xr_getR B xg_X10_37 xh_0 rfl dX10_foretold_45 ?_
          refine xr_aload_n B dX10_foretold_48 rfl rfl ?_
          refine xr_getR B xg_X10_19 xh_0 rfl dX10_foretold_49 ?_
          refine xr_aload_n B dX10_foretold_52 rfl rfl ?_
          refine xr_getR B xg_X10_26 xh_0 rfl dX10_foretold_53 ?_
          refine xr_cVv B (rest := []) [.ref (ad 9), .ref (ad 15)] xm_X0_make xv_X10_212 (fun q hq => xc_X0_make l D ad ca σ q hq) xh_31 rfl rfl (by decide) rfl (Nat.le_of_ble_eq_true rfl) dX10_foretold_56 hf (fun s4 hf => ?_)
          refine xr_aload_n B dX10_foretold_59 rfl rfl ?_
          refine xr_getR B xg_X10_44 xh_0 rfl dX10_foretold_60 ?_
          refine xr_aload_n B dX10_foretold_63 rfl rfl ?_
          refine xr_getR B xg_X10_19 xh_0 rfl dX10_foretold_64 ?_
          refine xr_aload_n B dX10_foretold_67 rfl rfl ?_
          refine xr_getR B xg_X10_26 xh_0 rfl dX10_foretold_68 ?_
          refine xr_aload_n B dX10_foretold_71 rfl rfl ?_
          refine xr_getR B xg_X10_37 xh_0 rfl dX10_foretold_72 ?_
          refine xr_iconst B (v := 0) dX10_foretold_75 (by decide) ?_
          refine xr_iload_n B dX10_foretold_76 rfl rfl ?_
          refine xr_cVI B (rest := []) [.ref (ad 9), .ref (ad 15), .ref (ad 31), .int 0, .int a3] xm_X4_run xv_X10_226 (fun q hq => xc_X4_run l D ad ca s4 0 a3 q hq) xh_35 rfl rfl (by decide) rfl (Nat.le_of_ble_eq_true rfl) dX10_foretold_77 hf (fun p5 hf => ?_)
          refine xr_pop B dX10_foretold_80 rfl ?_
          refine xr_iload_n B dX10_foretold_81 rfl rfl ?_
          refine xr_iconst B (v := (-1)) dX10_foretold_82 (by decide) ?_
          refine xr_ic_ne B (tgt := 100) dX10_foretold_83 (by decide) hf (fun _ hf => ?_) (fun _ hf => ?_)
          · refine xr_aload_n B dX10_foretold_86 rfl rfl ?_
            refine xr_getR B xg_X10_44 xh_0 rfl dX10_foretold_87 ?_
            refine xr_getR B xg_X10_230 xh_35 rfl dX10_foretold_90 ?_
            refine xr_iload_n B dX10_foretold_93 rfl rfl ?_
            refine xr_cVi B (rest := []) [.int a1] xm_X9_top xv_X10_168 (fun q hq => xc_X9_top l D ad ca p5.2 36 a1 ⟨xh_36, xh_37⟩ q hq) xh_36 rfl rfl (by decide) rfl (Nat.le_of_ble_eq_true rfl) dX10_foretold_94 hf (fun v6 hf => ?_)
            refine xr_goto B (tgt := 112) dX10_foretold_97 (by decide) ?_
            obtain rfl := Option.some.inj hf
            exact RR _ _ _ dX10_foretold_112 rfl
          · refine xr_aload_n B dX10_foretold_100 rfl rfl ?_
            refine xr_getR B xg_X10_44 xh_0 rfl dX10_foretold_101 ?_
            refine xr_getR B xg_X10_230 xh_35 rfl dX10_foretold_104 ?_
            refine xr_iload_n B dX10_foretold_107 rfl rfl ?_
            refine xr_iload_n B dX10_foretold_108 rfl rfl ?_
            refine xr_cVi B (rest := []) [.int a1, .int a2] xm_X9_of xv_X10_155 (fun q hq => xc_X9_of l D ad ca p5.2 36 a1 a2 ⟨xh_36, xh_37⟩ q hq) xh_36 rfl rfl (by decide) rfl (Nat.le_of_ble_eq_true rfl) dX10_foretold_109 hf (fun v7 hf => ?_)
            obtain rfl := Option.some.inj hf
            exact RR _ _ _ dX10_foretold_112 rfl
        · refine xr_ldc B xk_X10_83 dX10_foretold_41 ?_
          obtain rfl := Option.some.inj hf
          exact RR _ _ _ dX10_foretold_43 rfl
    · refine xr_ic_eq B (tgt := 30) dX10_foretold_13 (by decide) hf (fun _ hf => ?_) (fun _ hf => ?_)
      · exact hj3 () hf
      · refine xr_aload_n B dX10_foretold_16 rfl rfl ?_
        refine xr_getR B xg_X10_19 xh_0 rfl dX10_foretold_17 ?_
        refine xr_iload_n B dX10_foretold_20 rfl rfl ?_
        refine xr_cVi B (rest := []) [.int a2] xm_X7_hasDream xv_X10_147 (fun q hq => xc_X7_hasDream l D ad ca σ a2 q hq) xh_9 rfl rfl (by decide) rfl (Nat.le_of_ble_eq_true rfl) dX10_foretold_21 hf (fun v8 hf => ?_)
        refine xr_if_ne B (tgt := 30) dX10_foretold_24 (by decide) hf (fun _ hf => ?_) (fun _ hf => ?_)
        · refine xr_ldc B xk_X10_150 dX10_foretold_27 ?_
          obtain rfl := Option.some.inj hf
          exact RR _ _ _ dX10_foretold_29 rfl
        · exact hj3 () hf

noncomputable def xf_X10_settled (σ : xr_S) : Option (Int32 × xr_S) := (xf_X0_make σ).bind (fun s1 => (xf_X4_run s1 0 201).bind (fun p2 => if 200 < p2.1 then (some ((-1), p2.2)) else (some (p2.1, p2.2))))
set_option maxRecDepth 100000 in
set_option maxHeartbeats 4000000 in
theorem xc_X10_settled (l : Launch) (D : va_G) (ad : Nat → Nat) (ca : Nat → ClassId) (σ : xr_S) (q : (Int32 × xr_S)) (hf : xf_X10_settled σ = some q) : xr_M l D ad ca yX10_settled cX10_settled 2 (some .int) 5 121 [.ref (ad 0)] σ (some (.int q.1)) q.2 := by
  refine xr_openI [some (.ref (ad 0)), none] xm_X10_settled (Nat.le_of_ble_eq_true rfl) rfl (fun J B RR => ?_)
  unfold xf_X10_settled at hf
  refine xr_aload_n B dX10_settled_0 rfl rfl ?_
  refine xr_getR B xg_X10_37 xh_0 rfl dX10_settled_1 ?_
  refine xr_aload_n B dX10_settled_4 rfl rfl ?_
  refine xr_getR B xg_X10_19 xh_0 rfl dX10_settled_5 ?_
  refine xr_aload_n B dX10_settled_8 rfl rfl ?_
  refine xr_getR B xg_X10_26 xh_0 rfl dX10_settled_9 ?_
  refine xr_cVv B (rest := []) [.ref (ad 9), .ref (ad 15)] xm_X0_make xv_X10_212 (fun q hq => xc_X0_make l D ad ca σ q hq) xh_31 rfl rfl (by decide) rfl (Nat.le_of_ble_eq_true rfl) dX10_settled_12 hf (fun s1 hf => ?_)
  refine xr_aload_n B dX10_settled_15 rfl rfl ?_
  refine xr_getR B xg_X10_44 xh_0 rfl dX10_settled_16 ?_
  refine xr_aload_n B dX10_settled_19 rfl rfl ?_
  refine xr_getR B xg_X10_19 xh_0 rfl dX10_settled_20 ?_
  refine xr_aload_n B dX10_settled_23 rfl rfl ?_
  refine xr_getR B xg_X10_26 xh_0 rfl dX10_settled_24 ?_
  refine xr_aload_n B dX10_settled_27 rfl rfl ?_
  refine xr_getR B xg_X10_37 xh_0 rfl dX10_settled_28 ?_
  refine xr_iconst B (v := 0) dX10_settled_31 (by decide) ?_
  refine xr_sipush B (v := 201) dX10_settled_32 (by decide) ?_
  refine xr_cVI B (rest := []) [.ref (ad 9), .ref (ad 15), .ref (ad 31), .int 0, .int 201] xm_X4_run xv_X10_226 (fun q hq => xc_X4_run l D ad ca s1 0 201 q hq) xh_35 rfl rfl (by decide) rfl (Nat.le_of_ble_eq_true rfl) dX10_settled_35 hf (fun p2 hf => ?_)
  refine xr_istore_n B (lv2 := [some (.ref (ad 0)), some (.int p2.1)]) dX10_settled_38 rfl (by decide) rfl ?_
  refine xr_iload_n B dX10_settled_39 rfl rfl ?_
  refine xr_sipush B (v := 200) dX10_settled_40 (by decide) ?_
  refine xr_ic_gt B (tgt := 50) dX10_settled_43 (by decide) hf (fun _ hf => ?_) (fun _ hf => ?_)
  · refine xr_iconst B (v := (-1)) dX10_settled_50 (by decide) ?_
    obtain rfl := Option.some.inj hf
    exact RR _ _ _ dX10_settled_51 rfl
  · refine xr_iload_n B dX10_settled_46 rfl rfl ?_
    refine xr_goto B (tgt := 51) dX10_settled_47 (by decide) ?_
    obtain rfl := Option.some.inj hf
    exact RR _ _ _ dX10_settled_51 rfl

noncomputable def xf_X10_staysCalm_L24 (p1 : (Int32 × xr_S)) (K5 : Unit → Option (Int32 × xr_S)) (t2 : Int32) (rec3 : Int32 → Option (Int32 × xr_S)) : Option (Int32 × xr_S) := if (p1.2.1 9 2) ≤ t2 then (K5 ()) else ((xf_X9_top p1.2 36 t2).bind (fun v6 => if v6 = (p1.2.1 9 4) then (some (0, p1.2)) else (rec3 (t2 + 1))))
noncomputable def xf_X10_staysCalm (σ : xr_S) (a1 : Int32) (a2 : Int32) : Option (Int32 × xr_S) := (xf_X4_run σ a2 a1).bind (fun p1 => xr_lw (xf_X10_staysCalm_L24 p1 (fun (e4 : Unit) => some (1, p1.2))) 0)
set_option maxRecDepth 100000 in
set_option maxHeartbeats 4000000 in
theorem xc_X10_staysCalm (l : Launch) (D : va_G) (ad : Nat → Nat) (ca : Nat → ClassId) (σ : xr_S) (a1 : Int32) (a2 : Int32) (q : (Int32 × xr_S)) (hf : xf_X10_staysCalm σ a1 a2 = some q) : xr_M l D ad ca yX10_staysCalm cX10_staysCalm 4 (some .boolean) 4 100 [.ref (ad 0), .int a1, .int a2] σ (some (.int q.1)) q.2 := by
  refine xr_openZ [some (.ref (ad 0)), some (.int a1), some (.int a2), none] xm_X10_staysCalm (Nat.le_of_ble_eq_true rfl) rfl (fun J B RR => ?_)
  unfold xf_X10_staysCalm at hf
  refine xr_aload_n B dX10_staysCalm_0 rfl rfl ?_
  refine xr_getR B xg_X10_44 xh_0 rfl dX10_staysCalm_1 ?_
  refine xr_aload_n B dX10_staysCalm_4 rfl rfl ?_
  refine xr_getR B xg_X10_19 xh_0 rfl dX10_staysCalm_5 ?_
  refine xr_aload_n B dX10_staysCalm_8 rfl rfl ?_
  refine xr_getR B xg_X10_26 xh_0 rfl dX10_staysCalm_9 ?_
  refine xr_aload_n B dX10_staysCalm_12 rfl rfl ?_
  refine xr_getR B xg_X10_37 xh_0 rfl dX10_staysCalm_13 ?_
  refine xr_iload_n B dX10_staysCalm_16 rfl rfl ?_
  refine xr_iload_n B dX10_staysCalm_17 rfl rfl ?_
  refine xr_cVI B (rest := []) [.ref (ad 9), .ref (ad 15), .ref (ad 31), .int a2, .int a1] xm_X4_run xv_X10_226 (fun q hq => xc_X4_run l D ad ca σ a2 a1 q hq) xh_35 rfl rfl (by decide) rfl (Nat.le_of_ble_eq_true rfl) dX10_staysCalm_18 hf (fun p1 hf => ?_)
  refine xr_pop B dX10_staysCalm_21 rfl ?_
  refine xr_iconst B (v := 0) dX10_staysCalm_22 (by decide) ?_
  refine xr_istore_n B (lv2 := [some (.ref (ad 0)), some (.int a1), some (.int a2), some (.int 0)]) dX10_staysCalm_23 rfl (by decide) rfl ?_
  refine xr_forget B (lv2 := [some (.ref (ad 0)), none, none, some (.int 0)]) ⟨rfl, ⟨rfl, trivial⟩⟩ ?_
  refine xq_loop (fun (t2 : Int32) => J 24 [some (.ref (ad 0)), none, none, some (.int t2)] [] p1.2) (fun (e4 : Unit) => J 64 [none, none, none, none] [] p1.2) hf (fun e4 hf => ?_) (fun K5 hK5 t2 rec3 hrec3 hf => ?_)
  · refine xr_iconst B (v := 1) dX10_staysCalm_64 (by decide) ?_
    obtain rfl := Option.some.inj hf
    exact RR _ _ _ (by decide) dX10_staysCalm_65 rfl
  · unfold xf_X10_staysCalm_L24 at hf
    refine xr_iload_n B dX10_staysCalm_24 rfl rfl ?_
    refine xr_aload_n B dX10_staysCalm_25 rfl rfl ?_
    refine xr_getR B xg_X10_19 xh_0 rfl dX10_staysCalm_26 ?_
    refine xr_getI B xg_X10_111 xh_9 rfl dX10_staysCalm_29 ?_
    refine xr_ic_ge B (tgt := 64) dX10_staysCalm_32 (by decide) hf (fun _ hf => ?_) (fun _ hf => ?_)
    · refine xr_forget B (lv2 := [none, none, none, none]) trivial ?_
      exact hK5 () hf
    · refine xr_aload_n B dX10_staysCalm_35 rfl rfl ?_
      refine xr_getR B xg_X10_44 xh_0 rfl dX10_staysCalm_36 ?_
      refine xr_getR B xg_X10_230 xh_35 rfl dX10_staysCalm_39 ?_
      refine xr_iload_n B dX10_staysCalm_42 rfl rfl ?_
      refine xr_cVi B (rest := []) [.int t2] xm_X9_top xv_X10_168 (fun q hq => xc_X9_top l D ad ca p1.2 36 t2 ⟨xh_36, xh_37⟩ q hq) xh_36 rfl rfl (by decide) rfl (Nat.le_of_ble_eq_true rfl) dX10_staysCalm_43 hf (fun v6 hf => ?_)
      refine xr_aload_n B dX10_staysCalm_46 rfl rfl ?_
      refine xr_getR B xg_X10_19 xh_0 rfl dX10_staysCalm_47 ?_
      refine xr_getI B xg_X10_123 xh_9 rfl dX10_staysCalm_50 ?_
      refine xr_ic_ne B (tgt := 58) dX10_staysCalm_53 (by decide) hf (fun _ hf => ?_) (fun _ hf => ?_)
      · refine xr_iconst B (v := 0) dX10_staysCalm_56 (by decide) ?_
        obtain rfl := Option.some.inj hf
        exact RR _ _ _ (by decide) dX10_staysCalm_57 rfl
      · refine xr_iinc B (v := (t2 + 1)) (lv2 := [some (.ref (ad 0)), none, none, some (.int (t2 + 1))]) dX10_staysCalm_58 rfl (congrArg (t2 + ·) (by decide : Int32.ofInt (1) = 1)) (by decide) rfl ?_
        refine xr_goto B (tgt := 24) dX10_staysCalm_61 (by decide) ?_
        exact hrec3 (t2 + 1) hf

noncomputable def xf_X10_fewestWoken_L41 (v2 : Int32) (a1 : Int32) (t3 : (Int32 × xr_S)) (K10 : xr_S → Option (Int32 × xr_S)) (t7 : (Int32 × xr_S)) (rec8 : (Int32 × xr_S) → Option (Int32 × xr_S)) : Option (Int32 × xr_S) := if v2 ≤ t7.1 then (K10 t7.2) else ((xf_J6_bitCount_0f7a4 t7.2 t7.1).bind (fun v11 => xr_jn (fun (w12 : Int32) => xr_jn (fun (w14 : xr_S) => rec8 ((t7.1 + 1), w14)) (fun j15 => if w12 = 0 then (j15 t7.2) else ((xf_X10_staysCalm t7.2 a1 t7.1).bind (fun p17 => if p17.1 = 0 then (j15 p17.2) else (some (t7.1, p17.2)))))) (fun j13 => if v11 = t3.1 then (if (t7.1 &&& ((t7.2.1 31 1) ^^^ (-1))) = 0 then (j13 1) else (j13 0)) else (j13 0))))
noncomputable def xf_X10_fewestWoken_L27 (v2 : Int32) (a1 : Int32) (K6 : xr_S → Option (Int32 × xr_S)) (t3 : (Int32 × xr_S)) (rec4 : (Int32 × xr_S) → Option (Int32 × xr_S)) : Option (Int32 × xr_S) := if (t3.2.1 9 2) < t3.1 then (K6 t3.2) else (xr_lw (xf_X10_fewestWoken_L41 v2 a1 t3 (fun (e9 : xr_S) => rec4 ((t3.1 + 1), e9))) (0, t3.2))
noncomputable def xf_X10_fewestWoken (σ : xr_S) (a1 : Int32) : Option (Int32 × xr_S) := (xf_X0_make σ).bind (fun s1 => xr_v (((1 : Int32) <<< ((s1.1 9 2) &&& 31))) (fun v2 => xr_lw (xf_X10_fewestWoken_L27 v2 a1 (fun (e5 : xr_S) => some ((-1), e5))) (0, s1)))
set_option maxRecDepth 100000 in
set_option maxHeartbeats 4000000 in
theorem xc_X10_fewestWoken (l : Launch) (D : va_G) (ad : Nat → Nat) (ca : Nat → ClassId) (σ : xr_S) (a1 : Int32) (q : (Int32 × xr_S)) (hf : xf_X10_fewestWoken σ a1 = some q) : xr_M l D ad ca yX10_fewestWoken cX10_fewestWoken 6 (some .int) 5 123 [.ref (ad 0), .int a1] σ (some (.int q.1)) q.2 := by
  refine xr_openI [some (.ref (ad 0)), some (.int a1), none, none, none, none] xm_X10_fewestWoken (Nat.le_of_ble_eq_true rfl) rfl (fun J B RR => ?_)
  unfold xf_X10_fewestWoken at hf
  refine xr_aload_n B dX10_fewestWoken_0 rfl rfl ?_
  refine xr_getR B xg_X10_37 xh_0 rfl dX10_fewestWoken_1 ?_
  refine xr_aload_n B dX10_fewestWoken_4 rfl rfl ?_
  refine xr_getR B xg_X10_19 xh_0 rfl dX10_fewestWoken_5 ?_
  refine xr_aload_n B dX10_fewestWoken_8 rfl rfl ?_
  refine xr_getR B xg_X10_26 xh_0 rfl dX10_fewestWoken_9 ?_
  refine xr_cVv B (rest := []) [.ref (ad 9), .ref (ad 15)] xm_X0_make xv_X10_212 (fun q hq => xc_X0_make l D ad ca σ q hq) xh_31 rfl rfl (by decide) rfl (Nat.le_of_ble_eq_true rfl) dX10_fewestWoken_12 hf (fun s1 hf => ?_)
  refine xr_iconst B (v := 1) dX10_fewestWoken_15 (by decide) ?_
  refine xr_aload_n B dX10_fewestWoken_16 rfl rfl ?_
  refine xr_getR B xg_X10_19 xh_0 rfl dX10_fewestWoken_17 ?_
  refine xr_getI B xg_X10_111 xh_9 rfl dX10_fewestWoken_20 ?_
  refine xr_ishl B dX10_fewestWoken_23 ?_
  refine xr_top _ hf (fun v2 hf => ?_)
  refine xr_istore_n B (lv2 := [some (.ref (ad 0)), some (.int a1), some (.int v2), none, none, none]) dX10_fewestWoken_24 rfl (by decide) rfl ?_
  refine xr_iconst B (v := 0) dX10_fewestWoken_25 (by decide) ?_
  refine xr_istore_n B (lv2 := [some (.ref (ad 0)), some (.int a1), some (.int v2), some (.int 0), none, none]) dX10_fewestWoken_26 rfl (by decide) rfl ?_
  refine xq_loop (fun (t3 : (Int32 × xr_S)) => J 27 [some (.ref (ad 0)), some (.int a1), some (.int v2), some (.int t3.1), none, none] [] t3.2) (fun (e5 : xr_S) => J 108 [none, none, none, none, none, none] [] e5) hf (fun e5 hf => ?_) (fun K6 hK6 t3 rec4 hrec4 hf => ?_)
  · refine xr_iconst B (v := (-1)) dX10_fewestWoken_108 (by decide) ?_
    obtain rfl := Option.some.inj hf
    exact RR _ _ _ dX10_fewestWoken_109 rfl
  · have hrec4 : ∀ (b1 : Int32) (b2 : xr_S), rec4 (b1, b2) = some q → J 27 [some (.ref (ad 0)), some (.int a1), some (.int v2), some (.int b1), none, none] [] b2 := fun b1 b2 h => hrec4 (b1, b2) h
    unfold xf_X10_fewestWoken_L27 at hf
    refine xr_iload_n B dX10_fewestWoken_27 rfl rfl ?_
    refine xr_aload_n B dX10_fewestWoken_28 rfl rfl ?_
    refine xr_getR B xg_X10_19 xh_0 rfl dX10_fewestWoken_29 ?_
    refine xr_getI B xg_X10_111 xh_9 rfl dX10_fewestWoken_32 ?_
    refine xr_ic_gt B (tgt := 108) dX10_fewestWoken_35 (by decide) hf (fun _ hf => ?_) (fun _ hf => ?_)
    · refine xr_forget B (lv2 := [none, none, none, none, none, none]) trivial ?_
      exact hK6 t3.2 hf
    · refine xr_iconst B (v := 0) dX10_fewestWoken_38 (by decide) ?_
      refine xr_istore B (lv2 := [some (.ref (ad 0)), some (.int a1), some (.int v2), some (.int t3.1), some (.int 0), none]) dX10_fewestWoken_39 (by decide) rfl ?_
      refine xq_loop (fun (t7 : (Int32 × xr_S)) => J 41 [some (.ref (ad 0)), some (.int a1), some (.int v2), some (.int t3.1), some (.int t7.1), none] [] t7.2) (fun (e9 : xr_S) => J 102 [some (.ref (ad 0)), some (.int a1), some (.int v2), some (.int t3.1), none, none] [] e9) hf (fun e9 hf => ?_) (fun K10 hK10 t7 rec8 hrec8 hf => ?_)
      · refine xr_iinc B (v := (t3.1 + 1)) (lv2 := [some (.ref (ad 0)), some (.int a1), some (.int v2), some (.int (t3.1 + 1)), none, none]) dX10_fewestWoken_102 rfl (congrArg (t3.1 + ·) (by decide : Int32.ofInt (1) = 1)) (by decide) rfl ?_
        refine xr_goto B (tgt := 27) dX10_fewestWoken_105 (by decide) ?_
        exact hrec4 (t3.1 + 1) e9 hf
      · have hrec8 : ∀ (b1 : Int32) (b2 : xr_S), rec8 (b1, b2) = some q → J 41 [some (.ref (ad 0)), some (.int a1), some (.int v2), some (.int t3.1), some (.int b1), none] [] b2 := fun b1 b2 h => hrec8 (b1, b2) h
        unfold xf_X10_fewestWoken_L41 at hf
        refine xr_iload B dX10_fewestWoken_41 rfl ?_
        refine xr_iload_n B dX10_fewestWoken_43 rfl rfl ?_
        refine xr_ic_ge B (tgt := 102) dX10_fewestWoken_44 (by decide) hf (fun _ hf => ?_) (fun _ hf => ?_)
        · refine xr_forget B (lv2 := [some (.ref (ad 0)), some (.int a1), some (.int v2), some (.int t3.1), none, none]) ⟨rfl, ⟨rfl, ⟨rfl, ⟨rfl, trivial⟩⟩⟩⟩ ?_
          exact hK10 t7.2 hf
        · refine xr_iload B dX10_fewestWoken_47 rfl ?_
          refine xr_cSi B (rest := []) [.int t7.1] xm_J6_bitCount_0f7a4 xs_X10_234 (fun q hq => xc_J6_bitCount_0f7a4 l D ad ca t7.2 t7.1 q hq) rfl (by decide) rfl (Nat.le_of_ble_eq_true rfl) dX10_fewestWoken_49 hf (fun v11 hf => ?_)
          refine xr_iload_n B dX10_fewestWoken_52 rfl rfl ?_
          refine xr_meet (fun (w12 : Int32) => J 76 [some (.ref (ad 0)), some (.int a1), some (.int v2), some (.int t3.1), some (.int t7.1), none] [.int w12] t7.2) hf (fun w12 hf => ?_) (fun j13 hj13 hf => ?_)
          · refine xr_istore B (lv2 := [some (.ref (ad 0)), some (.int a1), some (.int v2), some (.int t3.1), some (.int t7.1), some (.int w12)]) dX10_fewestWoken_76 (by decide) rfl ?_
            refine xr_iload B dX10_fewestWoken_78 rfl ?_
            refine xr_meet (fun (w14 : xr_S) => J 96 [some (.ref (ad 0)), some (.int a1), some (.int v2), some (.int t3.1), some (.int t7.1), none] [] w14) hf (fun w14 hf => ?_) (fun j15 hj15 hf => ?_)
            · refine xr_iinc B (v := (t7.1 + 1)) (lv2 := [some (.ref (ad 0)), some (.int a1), some (.int v2), some (.int t3.1), some (.int (t7.1 + 1)), none]) dX10_fewestWoken_96 rfl (congrArg (t7.1 + ·) (by decide : Int32.ofInt (1) = 1)) (by decide) rfl ?_
              refine xr_goto B (tgt := 41) dX10_fewestWoken_99 (by decide) ?_
              exact hrec8 (t7.1 + 1) w14 hf
            · refine xr_if_eq B (tgt := 96) dX10_fewestWoken_80 (by decide) hf (fun _ hf => ?_) (fun _ hf => ?_)
              · refine xr_forget B (lv2 := [some (.ref (ad 0)), some (.int a1), some (.int v2), some (.int t3.1), some (.int t7.1), none]) ⟨rfl, ⟨rfl, ⟨rfl, ⟨rfl, ⟨rfl, trivial⟩⟩⟩⟩⟩ ?_
                exact hj15 t7.2 hf
              · refine xr_aload_n B dX10_fewestWoken_83 rfl rfl ?_
                refine xr_iload_n B dX10_fewestWoken_84 rfl rfl ?_
                refine xr_iload B dX10_fewestWoken_85 rfl ?_
                refine xr_cVI B (rest := []) [.int a1, .int t7.1] xm_X10_staysCalm xv_X10_277 (fun q hq => xc_X10_staysCalm l D ad ca t7.2 a1 t7.1 q hq) xh_0 rfl rfl (by decide) rfl (Nat.le_of_ble_eq_true rfl) dX10_fewestWoken_87 hf (fun p17 hf => ?_)
                refine xr_if_eq B (tgt := 96) dX10_fewestWoken_90 (by decide) hf (fun _ hf => ?_) (fun _ hf => ?_)
                · refine xr_forget B (lv2 := [some (.ref (ad 0)), some (.int a1), some (.int v2), some (.int t3.1), some (.int t7.1), none]) ⟨rfl, ⟨rfl, ⟨rfl, ⟨rfl, ⟨rfl, trivial⟩⟩⟩⟩⟩ ?_
                  exact hj15 p17.2 hf
                · refine xr_iload B dX10_fewestWoken_93 rfl ?_
                  obtain rfl := Option.some.inj hf
                  exact RR _ _ _ dX10_fewestWoken_95 rfl
          · refine xr_ic_ne B (tgt := 75) dX10_fewestWoken_53 (by decide) hf (fun _ hf => ?_) (fun _ hf => ?_)
            · refine xr_iload B dX10_fewestWoken_56 rfl ?_
              refine xr_aload_n B dX10_fewestWoken_58 rfl rfl ?_
              refine xr_getR B xg_X10_37 xh_0 rfl dX10_fewestWoken_59 ?_
              refine xr_getI B xg_X10_274 xh_31 rfl dX10_fewestWoken_62 ?_
              refine xr_iconst B (v := (-1)) dX10_fewestWoken_65 (by decide) ?_
              refine xr_ixor B dX10_fewestWoken_66 ?_
              refine xr_iand B dX10_fewestWoken_67 ?_
              refine xr_if_ne B (tgt := 75) dX10_fewestWoken_68 (by decide) hf (fun _ hf => ?_) (fun _ hf => ?_)
              · refine xr_iconst B (v := 1) dX10_fewestWoken_71 (by decide) ?_
                refine xr_goto B (tgt := 76) dX10_fewestWoken_72 (by decide) ?_
                exact hj13 1 hf
              · refine xr_iconst B (v := 0) dX10_fewestWoken_75 (by decide) ?_
                exact hj13 0 hf
            · refine xr_iconst B (v := 0) dX10_fewestWoken_75 (by decide) ?_
              exact hj13 0 hf

noncomputable def xf_X10_awake (σ : xr_S) (a1 : Int32) (a2 : Int32) : Option (Int32 × xr_S) := if a1 < 0 then (some ((-1000000002), σ)) else (if 200 < a1 then (some ((-1000000002), σ)) else (if a2 < 0 then (some ((-1000000002), σ)) else (if a2 ≤ 1 then ((xf_X10_fewestWoken σ a1).bind (fun p1 => if p1.1 = (-1) then (some (p1.1, p1.2)) else (if a2 = 1 then (some (p1.1, p1.2)) else ((xf_J6_bitCount_0f7a4 p1.2 p1.1).bind (fun v2 => some (v2, p1.2)))))) else (some ((-1000000002), σ)))))
set_option maxRecDepth 100000 in
set_option maxHeartbeats 4000000 in
theorem xc_X10_awake (l : Launch) (D : va_G) (ad : Nat → Nat) (ca : Nat → ClassId) (σ : xr_S) (a1 : Int32) (a2 : Int32) (q : (Int32 × xr_S)) (hf : xf_X10_awake σ a1 a2 = some q) : xr_M l D ad ca yX10_awake cX10_awake 4 (some .int) 6 148 [.ref (ad 0), .int a1, .int a2] σ (some (.int q.1)) q.2 := by
  refine xr_openI [some (.ref (ad 0)), some (.int a1), some (.int a2), none] xm_X10_awake (Nat.le_of_ble_eq_true rfl) rfl (fun J B RR => ?_)
  unfold xf_X10_awake at hf
  refine xr_iload_n B dX10_awake_0 rfl rfl ?_
  refine xr_if_lt B (tgt := 20) dX10_awake_1 (by decide) hf (fun _ hf => ?_) (fun _ hf => ?_)
  · refine xr_ldc B xk_X10_83 dX10_awake_20 ?_
    obtain rfl := Option.some.inj hf
    exact RR _ _ _ dX10_awake_22 rfl
  · refine xr_iload_n B dX10_awake_4 rfl rfl ?_
    refine xr_sipush B (v := 200) dX10_awake_5 (by decide) ?_
    refine xr_ic_gt B (tgt := 20) dX10_awake_8 (by decide) hf (fun _ hf => ?_) (fun _ hf => ?_)
    · refine xr_ldc B xk_X10_83 dX10_awake_20 ?_
      obtain rfl := Option.some.inj hf
      exact RR _ _ _ dX10_awake_22 rfl
    · refine xr_iload_n B dX10_awake_11 rfl rfl ?_
      refine xr_if_lt B (tgt := 20) dX10_awake_12 (by decide) hf (fun _ hf => ?_) (fun _ hf => ?_)
      · refine xr_ldc B xk_X10_83 dX10_awake_20 ?_
        obtain rfl := Option.some.inj hf
        exact RR _ _ _ dX10_awake_22 rfl
      · refine xr_iload_n B dX10_awake_15 rfl rfl ?_
        refine xr_iconst B (v := 1) dX10_awake_16 (by decide) ?_
        refine xr_ic_le B (tgt := 23) dX10_awake_17 (by decide) hf (fun _ hf => ?_) (fun _ hf => ?_)
        · refine xr_aload_n B dX10_awake_23 rfl rfl ?_
          refine xr_iload_n B dX10_awake_24 rfl rfl ?_
          refine xr_cVI B (rest := []) [.int a1] xm_X10_fewestWoken xv_X10_231 (fun q hq => xc_X10_fewestWoken l D ad ca σ a1 q hq) xh_0 rfl rfl (by decide) rfl (Nat.le_of_ble_eq_true rfl) dX10_awake_25 hf (fun p1 hf => ?_)
          refine xr_istore_n B (lv2 := [some (.ref (ad 0)), some (.int a1), some (.int a2), some (.int p1.1)]) dX10_awake_28 rfl (by decide) rfl ?_
          refine xr_iload_n B dX10_awake_29 rfl rfl ?_
          refine xr_iconst B (v := (-1)) dX10_awake_30 (by decide) ?_
          refine xr_ic_eq B (tgt := 39) dX10_awake_31 (by decide) hf (fun _ hf => ?_) (fun _ hf => ?_)
          · refine xr_iload_n B dX10_awake_39 rfl rfl ?_
            refine xr_goto B (tgt := 47) dX10_awake_40 (by decide) ?_
            obtain rfl := Option.some.inj hf
            exact RR _ _ _ dX10_awake_47 rfl
          · refine xr_iload_n B dX10_awake_34 rfl rfl ?_
            refine xr_iconst B (v := 1) dX10_awake_35 (by decide) ?_
            refine xr_ic_ne B (tgt := 43) dX10_awake_36 (by decide) hf (fun _ hf => ?_) (fun _ hf => ?_)
            · refine xr_iload_n B dX10_awake_39 rfl rfl ?_
              refine xr_goto B (tgt := 47) dX10_awake_40 (by decide) ?_
              obtain rfl := Option.some.inj hf
              exact RR _ _ _ dX10_awake_47 rfl
            · refine xr_iload_n B dX10_awake_43 rfl rfl ?_
              refine xr_cSi B (rest := []) [.int p1.1] xm_J6_bitCount_0f7a4 xs_X10_234 (fun q hq => xc_J6_bitCount_0f7a4 l D ad ca p1.2 p1.1 q hq) rfl (by decide) rfl (Nat.le_of_ble_eq_true rfl) dX10_awake_44 hf (fun v2 hf => ?_)
              obtain rfl := Option.some.inj hf
              exact RR _ _ _ dX10_awake_47 rfl
        · refine xr_ldc B xk_X10_83 dX10_awake_20 ?_
          obtain rfl := Option.some.inj hf
          exact RR _ _ _ dX10_awake_22 rfl

noncomputable def xf_X10_bite (σ : xr_S) (a1 : Int32) : Option (Int32 × xr_S) := (xf_X7_hasDream σ a1).bind (fun v1 => if v1 = 0 then (some ((-1000000001), σ)) else ((xf_X1_add σ a1).bind (fun p2 => if p2.1 = 0 then (some ((-1000000004), p2.2)) else (some ((p2.2.1 39 0), p2.2)))))
set_option maxRecDepth 100000 in
set_option maxHeartbeats 4000000 in
theorem xc_X10_bite (l : Launch) (D : va_G) (ad : Nat → Nat) (ca : Nat → ClassId) (σ : xr_S) (a1 : Int32) (q : (Int32 × xr_S)) (hf : xf_X10_bite σ a1 = some q) : xr_M l D ad ca yX10_bite cX10_bite 2 (some .int) 1 21 [.ref (ad 0), .int a1] σ (some (.int q.1)) q.2 := by
  refine xr_openI [some (.ref (ad 0)), some (.int a1)] xm_X10_bite (Nat.le_of_ble_eq_true rfl) rfl (fun J B RR => ?_)
  unfold xf_X10_bite at hf
  refine xr_aload_n B dX10_bite_0 rfl rfl ?_
  refine xr_getR B xg_X10_19 xh_0 rfl dX10_bite_1 ?_
  refine xr_iload_n B dX10_bite_4 rfl rfl ?_
  refine xr_cVi B (rest := []) [.int a1] xm_X7_hasDream xv_X10_147 (fun q hq => xc_X7_hasDream l D ad ca σ a1 q hq) xh_9 rfl rfl (by decide) rfl (Nat.le_of_ble_eq_true rfl) dX10_bite_5 hf (fun v1 hf => ?_)
  refine xr_if_ne B (tgt := 14) dX10_bite_8 (by decide) hf (fun _ hf => ?_) (fun _ hf => ?_)
  · refine xr_ldc B xk_X10_150 dX10_bite_11 ?_
    obtain rfl := Option.some.inj hf
    exact RR _ _ _ dX10_bite_13 rfl
  · refine xr_aload_n B dX10_bite_14 rfl rfl ?_
    refine xr_getR B xg_X10_51 xh_0 rfl dX10_bite_15 ?_
    refine xr_iload_n B dX10_bite_18 rfl rfl ?_
    refine xr_cVI B (rest := []) [.int a1] xm_X1_add xv_X10_239 (fun q hq => xc_X1_add l D ad ca σ a1 q hq) xh_39 rfl rfl (by decide) rfl (Nat.le_of_ble_eq_true rfl) dX10_bite_19 hf (fun p2 hf => ?_)
    refine xr_if_eq B (tgt := 35) dX10_bite_22 (by decide) hf (fun _ hf => ?_) (fun _ hf => ?_)
    · refine xr_ldc B xk_X10_91 dX10_bite_35 ?_
      obtain rfl := Option.some.inj hf
      exact RR _ _ _ dX10_bite_37 rfl
    · refine xr_aload_n B dX10_bite_25 rfl rfl ?_
      refine xr_getR B xg_X10_51 xh_0 rfl dX10_bite_26 ?_
      refine xr_getI B xg_X10_107 xh_39 rfl dX10_bite_29 ?_
      refine xr_goto B (tgt := 37) dX10_bite_32 (by decide) ?_
      obtain rfl := Option.some.inj hf
      exact RR _ _ _ dX10_bite_37 rfl

noncomputable def xf_X10_mayBe (σ : xr_S) : Option Int32 := (xf_X1_possible σ).bind (fun v1 => some v1)
set_option maxRecDepth 100000 in
set_option maxHeartbeats 4000000 in
theorem xc_X10_mayBe (l : Launch) (D : va_G) (ad : Nat → Nat) (ca : Nat → ClassId) (σ : xr_S) (q : Int32) (hf : xf_X10_mayBe σ = some q) : xr_M l D ad ca yX10_mayBe cX10_mayBe 1 (some .int) 3 70 [.ref (ad 0)] σ (some (.int q)) σ := by
  refine xr_openI [some (.ref (ad 0))] xm_X10_mayBe (Nat.le_of_ble_eq_true rfl) rfl (fun J B RR => ?_)
  unfold xf_X10_mayBe at hf
  refine xr_aload_n B dX10_mayBe_0 rfl rfl ?_
  refine xr_getR B xg_X10_51 xh_0 rfl dX10_mayBe_1 ?_
  refine xr_aload_n B dX10_mayBe_4 rfl rfl ?_
  refine xr_getR B xg_X10_19 xh_0 rfl dX10_mayBe_5 ?_
  refine xr_aload_n B dX10_mayBe_8 rfl rfl ?_
  refine xr_getR B xg_X10_26 xh_0 rfl dX10_mayBe_9 ?_
  refine xr_getR B xg_X10_151 xh_15 rfl dX10_mayBe_12 ?_
  refine xr_cVi B (rest := []) [.ref (ad 9), .ref (ad 16)] xm_X1_possible xv_X10_240 (fun q hq => xc_X1_possible l D ad ca σ q hq) xh_39 rfl rfl (by decide) rfl (Nat.le_of_ble_eq_true rfl) dX10_mayBe_15 hf (fun v1 hf => ?_)
  obtain rfl := Option.some.inj hf
  exact RR _ _ _ dX10_mayBe_18 rfl

noncomputable def xf_X10_whose (σ : xr_S) : Option Int32 := (xf_X1_greatest σ).bind (fun v1 => some v1)
set_option maxRecDepth 100000 in
set_option maxHeartbeats 4000000 in
theorem xc_X10_whose (l : Launch) (D : va_G) (ad : Nat → Nat) (ca : Nat → ClassId) (σ : xr_S) (q : Int32) (hf : xf_X10_whose σ = some q) : xr_M l D ad ca yX10_whose cX10_whose 1 (some .int) 3 77 [.ref (ad 0)] σ (some (.int q)) σ := by
  refine xr_openI [some (.ref (ad 0))] xm_X10_whose (Nat.le_of_ble_eq_true rfl) rfl (fun J B RR => ?_)
  unfold xf_X10_whose at hf
  refine xr_aload_n B dX10_whose_0 rfl rfl ?_
  refine xr_getR B xg_X10_51 xh_0 rfl dX10_whose_1 ?_
  refine xr_aload_n B dX10_whose_4 rfl rfl ?_
  refine xr_getR B xg_X10_19 xh_0 rfl dX10_whose_5 ?_
  refine xr_aload_n B dX10_whose_8 rfl rfl ?_
  refine xr_getR B xg_X10_26 xh_0 rfl dX10_whose_9 ?_
  refine xr_getR B xg_X10_151 xh_15 rfl dX10_whose_12 ?_
  refine xr_cVi B (rest := []) [.ref (ad 9), .ref (ad 16)] xm_X1_greatest xv_X10_244 (fun q hq => xc_X1_greatest l D ad ca σ q hq) xh_39 rfl rfl (by decide) rfl (Nat.le_of_ble_eq_true rfl) dX10_whose_15 hf (fun v1 hf => ?_)
  obtain rfl := Option.some.inj hf
  exact RR _ _ _ dX10_whose_18 rfl
