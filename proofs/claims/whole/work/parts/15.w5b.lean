noncomputable def xf_X10_howLikely (σ : xr_S) (a1 : Int32) : Option Int32 := (xf_X7_hasSleeper σ a1).bind (fun v1 => if v1 = 0 then (some (-1000000001)) else ((xf_X1_share σ a1).bind (fun v2 => some v2)))
set_option maxRecDepth 100000 in
set_option maxHeartbeats 4000000 in
theorem xc_X10_howLikely (l : Launch) (D : va_G) (ad : Nat → Nat) (ca : Nat → ClassId) (σ : xr_S) (a1 : Int32) (q : Int32) (hf : xf_X10_howLikely σ a1 = some q) : xr_M l D ad ca yX10_howLikely cX10_howLikely 2 (some .int) 3 75 [.ref (ad 0), .int a1] σ (some (.int q)) σ := by
  refine xr_openI [some (.ref (ad 0)), some (.int a1)] xm_X10_howLikely (Nat.le_of_ble_eq_true rfl) rfl (fun J B RR => ?_)
  unfold xf_X10_howLikely at hf
  refine xr_aload_n B dX10_howLikely_0 rfl rfl ?_
  refine xr_getR B xg_X10_19 xh_0 rfl dX10_howLikely_1 ?_
  refine xr_iload_n B dX10_howLikely_4 rfl rfl ?_
  refine xr_cVi B (rest := []) [.int a1] xm_X7_hasSleeper xv_X10_144 (fun q hq => xc_X7_hasSleeper l D ad ca σ a1 q hq) xh_9 rfl rfl (by decide) rfl (Nat.le_of_ble_eq_true rfl) dX10_howLikely_5 hf (fun v1 hf => ?_)
  refine xr_if_eq B (tgt := 33) dX10_howLikely_8 (by decide) hf (fun _ hf => ?_) (fun _ hf => ?_)
  · refine xr_ldc B xk_X10_150 dX10_howLikely_33 ?_
    obtain rfl := Option.some.inj hf
    exact RR _ _ _ dX10_howLikely_35 rfl
  · refine xr_aload_n B dX10_howLikely_11 rfl rfl ?_
    refine xr_getR B xg_X10_51 xh_0 rfl dX10_howLikely_12 ?_
    refine xr_aload_n B dX10_howLikely_15 rfl rfl ?_
    refine xr_getR B xg_X10_19 xh_0 rfl dX10_howLikely_16 ?_
    refine xr_aload_n B dX10_howLikely_19 rfl rfl ?_
    refine xr_getR B xg_X10_26 xh_0 rfl dX10_howLikely_20 ?_
    refine xr_getR B xg_X10_151 xh_15 rfl dX10_howLikely_23 ?_
    refine xr_iload_n B dX10_howLikely_26 rfl rfl ?_
    refine xr_cVi B (rest := []) [.ref (ad 9), .ref (ad 16), .int a1] xm_X1_share xv_X10_247 (fun q hq => xc_X1_share l D ad ca σ a1 q hq) xh_39 rfl rfl (by decide) rfl (Nat.le_of_ble_eq_true rfl) dX10_howLikely_27 hf (fun v2 hf => ?_)
    refine xr_goto B (tgt := 35) dX10_howLikely_30 (by decide) ?_
    obtain rfl := Option.some.inj hf
    exact RR _ _ _ dX10_howLikely_35 rfl

noncomputable def xf_X10_crumbs (σ : xr_S) (a1 : Int32) : Option (Int32 × xr_S) := xr_jn (fun (w1 : Unit) => if a1 = (-1) then ((xf_X3_ways σ (-1) (-1)).bind (fun p3 => some (p3.1, p3.2))) else ((xf_X3_sureBed σ a1).bind (fun p4 => some (p4.1, p4.2)))) (fun j2 => if a1 = (-1) then (j2 ()) else ((xf_X7_hasLoaf σ a1).bind (fun v5 => if v5 = 0 then (some ((-1000000001), σ)) else (j2 ()))))
set_option maxRecDepth 100000 in
set_option maxHeartbeats 4000000 in
theorem xc_X10_crumbs (l : Launch) (D : va_G) (ad : Nat → Nat) (ca : Nat → ClassId) (σ : xr_S) (a1 : Int32) (q : (Int32 × xr_S)) (hf : xf_X10_crumbs σ a1 = some q) : xr_M l D ad ca yX10_crumbs cX10_crumbs 2 (some .int) 4 102 [.ref (ad 0), .int a1] σ (some (.int q.1)) q.2 := by
  refine xr_openI [some (.ref (ad 0)), some (.int a1)] xm_X10_crumbs (Nat.le_of_ble_eq_true rfl) rfl (fun J B RR => ?_)
  unfold xf_X10_crumbs at hf
  refine xr_iload_n B dX10_crumbs_0 rfl rfl ?_
  refine xr_iconst B (v := (-1)) dX10_crumbs_1 (by decide) ?_
  refine xr_meet (fun (w1 : Unit) => J 19 [some (.ref (ad 0)), some (.int a1)] [] σ) hf (fun w1 hf => ?_) (fun j2 hj2 hf => ?_)
  · refine xr_iload_n B dX10_crumbs_19 rfl rfl ?_
    refine xr_iconst B (v := (-1)) dX10_crumbs_20 (by decide) ?_
    refine xr_ic_ne B (tgt := 44) dX10_crumbs_21 (by decide) hf (fun _ hf => ?_) (fun _ hf => ?_)
    · refine xr_aload_n B dX10_crumbs_24 rfl rfl ?_
      refine xr_getR B xg_X10_58 xh_0 rfl dX10_crumbs_25 ?_
      refine xr_aload_n B dX10_crumbs_28 rfl rfl ?_
      refine xr_getR B xg_X10_19 xh_0 rfl dX10_crumbs_29 ?_
      refine xr_aload_n B dX10_crumbs_32 rfl rfl ?_
      refine xr_getR B xg_X10_26 xh_0 rfl dX10_crumbs_33 ?_
      refine xr_iconst B (v := (-1)) dX10_crumbs_36 (by decide) ?_
      refine xr_iconst B (v := (-1)) dX10_crumbs_37 (by decide) ?_
      refine xr_cVI B (rest := []) [.ref (ad 9), .ref (ad 15), .int (-1), .int (-1)] xm_X3_ways xv_X10_251 (fun q hq => xc_X3_ways l D ad ca σ (-1) (-1) q hq) xh_41 rfl rfl (by decide) rfl (Nat.le_of_ble_eq_true rfl) dX10_crumbs_38 hf (fun p3 hf => ?_)
      refine xr_goto B (tgt := 60) dX10_crumbs_41 (by decide) ?_
      obtain rfl := Option.some.inj hf
      exact RR _ _ _ dX10_crumbs_60 rfl
    · refine xr_aload_n B dX10_crumbs_44 rfl rfl ?_
      refine xr_getR B xg_X10_58 xh_0 rfl dX10_crumbs_45 ?_
      refine xr_aload_n B dX10_crumbs_48 rfl rfl ?_
      refine xr_getR B xg_X10_19 xh_0 rfl dX10_crumbs_49 ?_
      refine xr_aload_n B dX10_crumbs_52 rfl rfl ?_
      refine xr_getR B xg_X10_26 xh_0 rfl dX10_crumbs_53 ?_
      refine xr_iload_n B dX10_crumbs_56 rfl rfl ?_
      refine xr_cVI B (rest := []) [.ref (ad 9), .ref (ad 15), .int a1] xm_X3_sureBed xv_X10_254 (fun q hq => xc_X3_sureBed l D ad ca σ a1 q hq) xh_41 rfl rfl (by decide) rfl (Nat.le_of_ble_eq_true rfl) dX10_crumbs_57 hf (fun p4 hf => ?_)
      obtain rfl := Option.some.inj hf
      exact RR _ _ _ dX10_crumbs_60 rfl
  · refine xr_ic_eq B (tgt := 19) dX10_crumbs_2 (by decide) hf (fun _ hf => ?_) (fun _ hf => ?_)
    · exact hj2 () hf
    · refine xr_aload_n B dX10_crumbs_5 rfl rfl ?_
      refine xr_getR B xg_X10_19 xh_0 rfl dX10_crumbs_6 ?_
      refine xr_iload_n B dX10_crumbs_9 rfl rfl ?_
      refine xr_cVi B (rest := []) [.int a1] xm_X7_hasLoaf xv_X10_171 (fun q hq => xc_X7_hasLoaf l D ad ca σ a1 q hq) xh_9 rfl rfl (by decide) rfl (Nat.le_of_ble_eq_true rfl) dX10_crumbs_10 hf (fun v5 hf => ?_)
      refine xr_if_ne B (tgt := 19) dX10_crumbs_13 (by decide) hf (fun _ hf => ?_) (fun _ hf => ?_)
      · refine xr_ldc B xk_X10_150 dX10_crumbs_16 ?_
        obtain rfl := Option.some.inj hf
        exact RR _ _ _ dX10_crumbs_18 rfl
      · exact hj2 () hf

noncomputable def xf_X10_hire_L37 (σ : xr_S) (a1 : Int32) (K5 : (Int32 × Int32) → Option Int32) (t2 : (Int32 × Int32 × Int32 × Int32)) (rec3 : (Int32 × Int32 × Int32 × Int32) → Option Int32) : Option Int32 := if (σ.1 9 3) ≤ t2.2.2.2 then (K5 (t2.1, t2.2.2.1)) else ((xf_X5_isFresh σ t2.2.2.2).bind (fun v6 => xr_jn (fun (w7 : Int32) => xr_jn (fun (w9 : (Int32 × Int32 × Int32)) => rec3 (w9.1, w9.2.1, w9.2.2, (t2.2.2.2 + 1))) (fun j10 => if w7 ≤ t2.2.1 then (if w7 ≤ t2.2.2.1 then (j10 (t2.1, t2.2.1, t2.2.2.1)) else (j10 (t2.1, t2.2.1, w7))) else (j10 (t2.2.2.2, w7, t2.2.1)))) (fun j8 => if v6 = 0 then (j8 0) else (xr_ld σ 12 7 t2.2.2.2 (fun v12 => if v12 = a1 then (j8 0) else ((xf_X5_worthOn σ t2.2.2.2 a1).bind (fun v13 => j8 v13)))))))
noncomputable def xf_X10_hire (σ : xr_S) (a1 : Int32) (a2 : Int32) : Option Int32 := (xf_X7_hasSleeper σ a1).bind (fun v1 => if v1 = 0 then (some (-1000000001)) else (if a2 < 0 then (some (-1000000002)) else (if a2 ≤ 1 then (xr_lw (xf_X10_hire_L37 σ a1 (fun (e4 : (Int32 × Int32)) => if e4.1 = (-1) then (some e4.1) else (if a2 = 0 then (some e4.1) else (some e4.2)))) ((-1), 0, 0, 0)) else (some (-1000000002)))))
set_option maxRecDepth 100000 in
set_option maxHeartbeats 4000000 in
theorem xc_X10_hire (l : Launch) (D : va_G) (ad : Nat → Nat) (ca : Nat → ClassId) (σ : xr_S) (a1 : Int32) (a2 : Int32) (q : Int32) (hf : xf_X10_hire σ a1 a2 = some q) : xr_M l D ad ca yX10_hire cX10_hire 8 (some .int) 2 47 [.ref (ad 0), .int a1, .int a2] σ (some (.int q)) σ := by
  refine xr_openI [some (.ref (ad 0)), some (.int a1), some (.int a2), none, none, none, none, none] xm_X10_hire (Nat.le_of_ble_eq_true rfl) rfl (fun J B RR => ?_)
  unfold xf_X10_hire at hf
  refine xr_aload_n B dX10_hire_0 rfl rfl ?_
  refine xr_getR B xg_X10_19 xh_0 rfl dX10_hire_1 ?_
  refine xr_iload_n B dX10_hire_4 rfl rfl ?_
  refine xr_cVi B (rest := []) [.int a1] xm_X7_hasSleeper xv_X10_144 (fun q hq => xc_X7_hasSleeper l D ad ca σ a1 q hq) xh_9 rfl rfl (by decide) rfl (Nat.le_of_ble_eq_true rfl) dX10_hire_5 hf (fun v1 hf => ?_)
  refine xr_if_ne B (tgt := 14) dX10_hire_8 (by decide) hf (fun _ hf => ?_) (fun _ hf => ?_)
  · refine xr_ldc B xk_X10_150 dX10_hire_11 ?_
    obtain rfl := Option.some.inj hf
    exact RR _ _ _ dX10_hire_13 rfl
  · refine xr_iload_n B dX10_hire_14 rfl rfl ?_
    refine xr_if_lt B (tgt := 23) dX10_hire_15 (by decide) hf (fun _ hf => ?_) (fun _ hf => ?_)
    · refine xr_ldc B xk_X10_83 dX10_hire_23 ?_
      obtain rfl := Option.some.inj hf
      exact RR _ _ _ dX10_hire_25 rfl
    · refine xr_iload_n B dX10_hire_18 rfl rfl ?_
      refine xr_iconst B (v := 1) dX10_hire_19 (by decide) ?_
      refine xr_ic_le B (tgt := 26) dX10_hire_20 (by decide) hf (fun _ hf => ?_) (fun _ hf => ?_)
      · refine xr_iconst B (v := (-1)) dX10_hire_26 (by decide) ?_
        refine xr_istore_n B (lv2 := [some (.ref (ad 0)), some (.int a1), some (.int a2), some (.int (-1)), none, none, none, none]) dX10_hire_27 rfl (by decide) rfl ?_
        refine xr_iconst B (v := 0) dX10_hire_28 (by decide) ?_
        refine xr_istore B (lv2 := [some (.ref (ad 0)), some (.int a1), some (.int a2), some (.int (-1)), some (.int 0), none, none, none]) dX10_hire_29 (by decide) rfl ?_
        refine xr_iconst B (v := 0) dX10_hire_31 (by decide) ?_
        refine xr_istore B (lv2 := [some (.ref (ad 0)), some (.int a1), some (.int a2), some (.int (-1)), some (.int 0), some (.int 0), none, none]) dX10_hire_32 (by decide) rfl ?_
        refine xr_iconst B (v := 0) dX10_hire_34 (by decide) ?_
        refine xr_istore B (lv2 := [some (.ref (ad 0)), some (.int a1), some (.int a2), some (.int (-1)), some (.int 0), some (.int 0), some (.int 0), none]) dX10_hire_35 (by decide) rfl ?_
        refine xq_loop (fun (t2 : (Int32 × Int32 × Int32 × Int32)) => J 37 [some (.ref (ad 0)), some (.int a1), some (.int a2), some (.int t2.1), some (.int t2.2.1), some (.int t2.2.2.1), some (.int t2.2.2.2), none] [] σ) (fun (e4 : (Int32 × Int32)) => J 133 [none, none, some (.int a2), some (.int e4.1), none, some (.int e4.2), none, none] [] σ) hf (fun e4 hf => ?_) (fun K5 hK5 t2 rec3 hrec3 hf => ?_)
        · refine xr_iload_n B dX10_hire_133 rfl rfl ?_
          refine xr_iconst B (v := (-1)) dX10_hire_134 (by decide) ?_
          refine xr_ic_eq B (tgt := 142) dX10_hire_135 (by decide) hf (fun _ hf => ?_) (fun _ hf => ?_)
          · refine xr_iload_n B dX10_hire_142 rfl rfl ?_
            refine xr_goto B (tgt := 148) dX10_hire_143 (by decide) ?_
            obtain rfl := Option.some.inj hf
            exact RR _ _ _ dX10_hire_148 rfl
          · refine xr_iload_n B dX10_hire_138 rfl rfl ?_
            refine xr_if_ne B (tgt := 146) dX10_hire_139 (by decide) hf (fun _ hf => ?_) (fun _ hf => ?_)
            · refine xr_iload_n B dX10_hire_142 rfl rfl ?_
              refine xr_goto B (tgt := 148) dX10_hire_143 (by decide) ?_
              obtain rfl := Option.some.inj hf
              exact RR _ _ _ dX10_hire_148 rfl
            · refine xr_iload B dX10_hire_146 rfl ?_
              obtain rfl := Option.some.inj hf
              exact RR _ _ _ dX10_hire_148 rfl
        · have hrec3 : ∀ (b1 : Int32) (b2 : Int32) (b3 : Int32) (b4 : Int32), rec3 (b1, b2, b3, b4) = some q → J 37 [some (.ref (ad 0)), some (.int a1), some (.int a2), some (.int b1), some (.int b2), some (.int b3), some (.int b4), none] [] σ := fun b1 b2 b3 b4 h => hrec3 (b1, b2, b3, b4) h
          have hK5 : ∀ (b1 : Int32) (b2 : Int32), K5 (b1, b2) = some q → J 133 [none, none, some (.int a2), some (.int b1), none, some (.int b2), none, none] [] σ := fun b1 b2 h => hK5 (b1, b2) h
          unfold xf_X10_hire_L37 at hf
          refine xr_iload B dX10_hire_37 rfl ?_
          refine xr_aload_n B dX10_hire_39 rfl rfl ?_
          refine xr_getR B xg_X10_19 xh_0 rfl dX10_hire_40 ?_
          refine xr_getI B xg_X10_120 xh_9 rfl dX10_hire_43 ?_
          refine xr_ic_ge B (tgt := 133) dX10_hire_46 (by decide) hf (fun _ hf => ?_) (fun _ hf => ?_)
          · refine xr_forget B (lv2 := [none, none, some (.int a2), some (.int t2.1), none, some (.int t2.2.2.1), none, none]) ⟨rfl, ⟨rfl, ⟨rfl, trivial⟩⟩⟩ ?_
            exact hK5 t2.1 t2.2.2.1 hf
          · refine xr_aload_n B dX10_hire_49 rfl rfl ?_
            refine xr_getR B xg_X10_26 xh_0 rfl dX10_hire_50 ?_
            refine xr_iload B dX10_hire_53 rfl ?_
            refine xr_cVi B (rest := []) [.int t2.2.2.2] xm_X5_isFresh xv_X10_198 (fun q hq => xc_X5_isFresh l D ad ca σ t2.2.2.2 q hq) xh_15 rfl rfl (by decide) rfl (Nat.le_of_ble_eq_true rfl) dX10_hire_55 hf (fun v6 hf => ?_)
            refine xr_meet (fun (w7 : Int32) => J 93 [some (.ref (ad 0)), some (.int a1), some (.int a2), some (.int t2.1), some (.int t2.2.1), some (.int t2.2.2.1), some (.int t2.2.2.2), none] [.int w7] σ) hf (fun w7 hf => ?_) (fun j8 hj8 hf => ?_)
            · refine xr_istore B (lv2 := [some (.ref (ad 0)), some (.int a1), some (.int a2), some (.int t2.1), some (.int t2.2.1), some (.int t2.2.2.1), some (.int t2.2.2.2), some (.int w7)]) dX10_hire_93 (by decide) rfl ?_
              refine xr_iload B dX10_hire_95 rfl ?_
              refine xr_iload B dX10_hire_97 rfl ?_
              refine xr_meet (fun (w9 : (Int32 × Int32 × Int32)) => J 127 [some (.ref (ad 0)), some (.int a1), some (.int a2), some (.int w9.1), some (.int w9.2.1), some (.int w9.2.2), some (.int t2.2.2.2), none] [] σ) hf (fun w9 hf => ?_) (fun j10 hj10 hf => ?_)
              · refine xr_iinc B (v := (t2.2.2.2 + 1)) (lv2 := [some (.ref (ad 0)), some (.int a1), some (.int a2), some (.int w9.1), some (.int w9.2.1), some (.int w9.2.2), some (.int (t2.2.2.2 + 1)), none]) dX10_hire_127 rfl (congrArg (t2.2.2.2 + ·) (by decide : Int32.ofInt (1) = 1)) (by decide) rfl ?_
                refine xr_goto B (tgt := 37) dX10_hire_130 (by decide) ?_
                exact hrec3 w9.1 w9.2.1 w9.2.2 (t2.2.2.2 + 1) hf
              · have hj10 : ∀ (b1 : Int32) (b2 : Int32) (b3 : Int32), j10 (b1, b2, b3) = some q → J 127 [some (.ref (ad 0)), some (.int a1), some (.int a2), some (.int b1), some (.int b2), some (.int b3), some (.int t2.2.2.2), none] [] σ := fun b1 b2 b3 h => hj10 (b1, b2, b3) h
                refine xr_ic_le B (tgt := 116) dX10_hire_99 (by decide) hf (fun _ hf => ?_) (fun _ hf => ?_)
                · refine xr_iload B dX10_hire_116 rfl ?_
                  refine xr_iload B dX10_hire_118 rfl ?_
                  refine xr_ic_le B (tgt := 127) dX10_hire_120 (by decide) hf (fun _ hf => ?_) (fun _ hf => ?_)
                  · refine xr_forget B (lv2 := [some (.ref (ad 0)), some (.int a1), some (.int a2), some (.int t2.1), some (.int t2.2.1), some (.int t2.2.2.1), some (.int t2.2.2.2), none]) ⟨rfl, ⟨rfl, ⟨rfl, ⟨rfl, ⟨rfl, ⟨rfl, ⟨rfl, trivial⟩⟩⟩⟩⟩⟩⟩ ?_
                    exact hj10 t2.1 t2.2.1 t2.2.2.1 hf
                  · refine xr_iload B dX10_hire_123 rfl ?_
                    refine xr_istore B (lv2 := [some (.ref (ad 0)), some (.int a1), some (.int a2), some (.int t2.1), some (.int t2.2.1), some (.int w7), some (.int t2.2.2.2), some (.int w7)]) dX10_hire_125 (by decide) rfl ?_
                    refine xr_forget B (lv2 := [some (.ref (ad 0)), some (.int a1), some (.int a2), some (.int t2.1), some (.int t2.2.1), some (.int w7), some (.int t2.2.2.2), none]) ⟨rfl, ⟨rfl, ⟨rfl, ⟨rfl, ⟨rfl, ⟨rfl, ⟨rfl, trivial⟩⟩⟩⟩⟩⟩⟩ ?_
                    exact hj10 t2.1 t2.2.1 w7 hf
                · refine xr_iload B dX10_hire_102 rfl ?_
                  refine xr_istore B (lv2 := [some (.ref (ad 0)), some (.int a1), some (.int a2), some (.int t2.1), some (.int t2.2.1), some (.int t2.2.1), some (.int t2.2.2.2), some (.int w7)]) dX10_hire_104 (by decide) rfl ?_
                  refine xr_iload B dX10_hire_106 rfl ?_
                  refine xr_istore B (lv2 := [some (.ref (ad 0)), some (.int a1), some (.int a2), some (.int t2.1), some (.int w7), some (.int t2.2.1), some (.int t2.2.2.2), some (.int w7)]) dX10_hire_108 (by decide) rfl ?_
                  refine xr_iload B dX10_hire_110 rfl ?_
                  refine xr_istore_n B (lv2 := [some (.ref (ad 0)), some (.int a1), some (.int a2), some (.int t2.2.2.2), some (.int w7), some (.int t2.2.1), some (.int t2.2.2.2), some (.int w7)]) dX10_hire_112 rfl (by decide) rfl ?_
                  refine xr_goto B (tgt := 127) dX10_hire_113 (by decide) ?_
                  refine xr_forget B (lv2 := [some (.ref (ad 0)), some (.int a1), some (.int a2), some (.int t2.2.2.2), some (.int w7), some (.int t2.2.1), some (.int t2.2.2.2), none]) ⟨rfl, ⟨rfl, ⟨rfl, ⟨rfl, ⟨rfl, ⟨rfl, ⟨rfl, trivial⟩⟩⟩⟩⟩⟩⟩ ?_
                  exact hj10 t2.2.2.2 w7 t2.2.1 hf
            · refine xr_if_eq B (tgt := 92) dX10_hire_58 (by decide) hf (fun _ hf => ?_) (fun _ hf => ?_)
              · refine xr_iconst B (v := 0) dX10_hire_92 (by decide) ?_
                exact hj8 0 hf
              · refine xr_aload_n B dX10_hire_61 rfl rfl ?_
                refine xr_getR B xg_X10_19 xh_0 rfl dX10_hire_62 ?_
                refine xr_getR B xg_X10_174 xh_9 rfl dX10_hire_65 ?_
                refine xr_iload B dX10_hire_68 rfl ?_
                refine xq_iald B xh_12 dX10_hire_70 hf (fun v12 hf => ?_)
                refine xr_iload_n B dX10_hire_71 rfl rfl ?_
                refine xr_ic_eq B (tgt := 92) dX10_hire_72 (by decide) hf (fun _ hf => ?_) (fun _ hf => ?_)
                · refine xr_iconst B (v := 0) dX10_hire_92 (by decide) ?_
                  exact hj8 0 hf
                · refine xr_aload_n B dX10_hire_75 rfl rfl ?_
                  refine xr_getR B xg_X10_26 xh_0 rfl dX10_hire_76 ?_
                  refine xr_aload_n B dX10_hire_79 rfl rfl ?_
                  refine xr_getR B xg_X10_19 xh_0 rfl dX10_hire_80 ?_
                  refine xr_iload B dX10_hire_83 rfl ?_
                  refine xr_iload_n B dX10_hire_85 rfl rfl ?_
                  refine xr_cVi B (rest := []) [.ref (ad 9), .int t2.2.2.2, .int a1] xm_X5_worthOn xv_X10_194 (fun q hq => xc_X5_worthOn l D ad ca σ t2.2.2.2 a1 q hq) xh_15 rfl rfl (by decide) rfl (Nat.le_of_ble_eq_true rfl) dX10_hire_86 hf (fun v13 hf => ?_)
                  refine xr_goto B (tgt := 93) dX10_hire_89 (by decide) ?_
                  exact hj8 v13 hf
      · refine xr_ldc B xk_X10_83 dX10_hire_23 ?_
        obtain rfl := Option.some.inj hf
        exact RR _ _ _ dX10_hire_25 rfl

noncomputable def xf_X10_bread (σ : xr_S) (a1 : Int32) : Option (Int32 × xr_S) := if a1 < 1 then (some ((-1000000002), σ)) else (if a1 ≤ 7 then ((xf_X8_atLeast σ a1).bind (fun p1 => some (p1.1, p1.2))) else (some ((-1000000002), σ)))
set_option maxRecDepth 100000 in
set_option maxHeartbeats 4000000 in
theorem xc_X10_bread (l : Launch) (D : va_G) (ad : Nat → Nat) (ca : Nat → ClassId) (σ : xr_S) (a1 : Int32) (q : (Int32 × xr_S)) (hf : xf_X10_bread σ a1 = some q) : xr_M l D ad ca yX10_bread cX10_bread 2 (some .int) 2 49 [.ref (ad 0), .int a1] σ (some (.int q.1)) q.2 := by
  refine xr_openI [some (.ref (ad 0)), some (.int a1)] xm_X10_bread (Nat.le_of_ble_eq_true rfl) rfl (fun J B RR => ?_)
  unfold xf_X10_bread at hf
  refine xr_iload_n B dX10_bread_0 rfl rfl ?_
  refine xr_iconst B (v := 1) dX10_bread_1 (by decide) ?_
  refine xr_ic_lt B (tgt := 11) dX10_bread_2 (by decide) hf (fun _ hf => ?_) (fun _ hf => ?_)
  · refine xr_ldc B xk_X10_83 dX10_bread_11 ?_
    refine xr_goto B (tgt := 32) dX10_bread_13 (by decide) ?_
    obtain rfl := Option.some.inj hf
    exact RR _ _ _ dX10_bread_32 rfl
  · refine xr_iload_n B dX10_bread_5 rfl rfl ?_
    refine xr_bipush B (v := 7) dX10_bread_6 (by decide) ?_
    refine xr_ic_le B (tgt := 16) dX10_bread_8 (by decide) hf (fun _ hf => ?_) (fun _ hf => ?_)
    · refine xr_aload_n B dX10_bread_16 rfl rfl ?_
      refine xr_getR B xg_X10_65 xh_0 rfl dX10_bread_17 ?_
      refine xr_aload_n B dX10_bread_20 rfl rfl ?_
      refine xr_getR B xg_X10_19 xh_0 rfl dX10_bread_21 ?_
      refine xr_aload_n B dX10_bread_24 rfl rfl ?_
      refine xr_getR B xg_X10_26 xh_0 rfl dX10_bread_25 ?_
      refine xr_iload_n B dX10_bread_28 rfl rfl ?_
      refine xr_cVI B (rest := []) [.ref (ad 9), .ref (ad 15), .int a1] xm_X8_atLeast xv_X10_258 (fun q hq => xc_X8_atLeast l D ad ca σ a1 q hq) xh_43 rfl rfl (by decide) rfl (Nat.le_of_ble_eq_true rfl) dX10_bread_29 hf (fun p1 hf => ?_)
      obtain rfl := Option.some.inj hf
      exact RR _ _ _ dX10_bread_32 rfl
    · refine xr_ldc B xk_X10_83 dX10_bread_11 ?_
      refine xr_goto B (tgt := 32) dX10_bread_13 (by decide) ?_
      obtain rfl := Option.some.inj hf
      exact RR _ _ _ dX10_bread_32 rfl

noncomputable def xf_X10_write (σ : xr_S) (a1 : Int32) (a2 : Int32) (a3 : Int32) : Option (Int32 × xr_S) := (xf_X7_hasSleeper σ a1).bind (fun v1 => if v1 = 0 then (some ((-1000000001), σ)) else ((xf_X7_hasDream σ a2).bind (fun v2 => if v2 = 0 then (some ((-1000000001), σ)) else (if a3 < 0 then (some ((-1000000002), σ)) else (if a3 ≤ 9 then ((xf_X2_add σ a1 a2 a3).bind (fun p3 => if p3.1 = 0 then (some ((-1000000004), p3.2)) else (some ((p3.2.1 45 0), p3.2)))) else (some ((-1000000002), σ)))))))
set_option maxRecDepth 100000 in
set_option maxHeartbeats 4000000 in
theorem xc_X10_write (l : Launch) (D : va_G) (ad : Nat → Nat) (ca : Nat → ClassId) (σ : xr_S) (a1 : Int32) (a2 : Int32) (a3 : Int32) (q : (Int32 × xr_S)) (hf : xf_X10_write σ a1 a2 a3 = some q) : xr_M l D ad ca yX10_write cX10_write 4 (some .int) 1 23 [.ref (ad 0), .int a1, .int a2, .int a3] σ (some (.int q.1)) q.2 := by
  refine xr_openI [some (.ref (ad 0)), some (.int a1), some (.int a2), some (.int a3)] xm_X10_write (Nat.le_of_ble_eq_true rfl) rfl (fun J B RR => ?_)
  unfold xf_X10_write at hf
  refine xr_aload_n B dX10_write_0 rfl rfl ?_
  refine xr_getR B xg_X10_19 xh_0 rfl dX10_write_1 ?_
  refine xr_iload_n B dX10_write_4 rfl rfl ?_
  refine xr_cVi B (rest := []) [.int a1] xm_X7_hasSleeper xv_X10_144 (fun q hq => xc_X7_hasSleeper l D ad ca σ a1 q hq) xh_9 rfl rfl (by decide) rfl (Nat.le_of_ble_eq_true rfl) dX10_write_5 hf (fun v1 hf => ?_)
  refine xr_if_eq B (tgt := 22) dX10_write_8 (by decide) hf (fun _ hf => ?_) (fun _ hf => ?_)
  · refine xr_ldc B xk_X10_150 dX10_write_22 ?_
    obtain rfl := Option.some.inj hf
    exact RR _ _ _ dX10_write_24 rfl
  · refine xr_aload_n B dX10_write_11 rfl rfl ?_
    refine xr_getR B xg_X10_19 xh_0 rfl dX10_write_12 ?_
    refine xr_iload_n B dX10_write_15 rfl rfl ?_
    refine xr_cVi B (rest := []) [.int a2] xm_X7_hasDream xv_X10_147 (fun q hq => xc_X7_hasDream l D ad ca σ a2 q hq) xh_9 rfl rfl (by decide) rfl (Nat.le_of_ble_eq_true rfl) dX10_write_16 hf (fun v2 hf => ?_)
    refine xr_if_ne B (tgt := 25) dX10_write_19 (by decide) hf (fun _ hf => ?_) (fun _ hf => ?_)
    · refine xr_ldc B xk_X10_150 dX10_write_22 ?_
      obtain rfl := Option.some.inj hf
      exact RR _ _ _ dX10_write_24 rfl
    · refine xr_iload_n B dX10_write_25 rfl rfl ?_
      refine xr_if_lt B (tgt := 35) dX10_write_26 (by decide) hf (fun _ hf => ?_) (fun _ hf => ?_)
      · refine xr_ldc B xk_X10_83 dX10_write_35 ?_
        obtain rfl := Option.some.inj hf
        exact RR _ _ _ dX10_write_37 rfl
      · refine xr_iload_n B dX10_write_29 rfl rfl ?_
        refine xr_bipush B (v := 9) dX10_write_30 (by decide) ?_
        refine xr_ic_le B (tgt := 38) dX10_write_32 (by decide) hf (fun _ hf => ?_) (fun _ hf => ?_)
        · refine xr_aload_n B dX10_write_38 rfl rfl ?_
          refine xr_getR B xg_X10_72 xh_0 rfl dX10_write_39 ?_
          refine xr_iload_n B dX10_write_42 rfl rfl ?_
          refine xr_iload_n B dX10_write_43 rfl rfl ?_
          refine xr_iload_n B dX10_write_44 rfl rfl ?_
          refine xr_cVI B (rest := []) [.int a1, .int a2, .int a3] xm_X2_add xv_X10_261 (fun q hq => xc_X2_add l D ad ca σ a1 a2 a3 q hq) xh_45 rfl rfl (by decide) rfl (Nat.le_of_ble_eq_true rfl) dX10_write_45 hf (fun p3 hf => ?_)
          refine xr_if_eq B (tgt := 61) dX10_write_48 (by decide) hf (fun _ hf => ?_) (fun _ hf => ?_)
          · refine xr_ldc B xk_X10_91 dX10_write_61 ?_
            obtain rfl := Option.some.inj hf
            exact RR _ _ _ dX10_write_63 rfl
          · refine xr_aload_n B dX10_write_51 rfl rfl ?_
            refine xr_getR B xg_X10_72 xh_0 rfl dX10_write_52 ?_
            refine xr_getI B xg_X10_110 xh_45 rfl dX10_write_55 ?_
            refine xr_goto B (tgt := 63) dX10_write_58 (by decide) ?_
            obtain rfl := Option.some.inj hf
            exact RR _ _ _ dX10_write_63 rfl
        · refine xr_ldc B xk_X10_83 dX10_write_35 ?_
          obtain rfl := Option.some.inj hf
          exact RR _ _ _ dX10_write_37 rfl

noncomputable def xf_X10_tear (σ : xr_S) : Option (Int32 × xr_S) := xr_v (((σ.1 39 0) + (σ.1 45 0))) (fun v1 => xr_pf σ 39 0 0 (fun s2 => xr_pf s2 45 0 0 (fun s3 => some (v1, s3))))
set_option maxRecDepth 100000 in
set_option maxHeartbeats 4000000 in
theorem xc_X10_tear (l : Launch) (D : va_G) (ad : Nat → Nat) (ca : Nat → ClassId) (σ : xr_S) (q : (Int32 × xr_S)) (hf : xf_X10_tear σ = some q) : xr_M l D ad ca yX10_tear cX10_tear 2 (some .int) 0 0 [.ref (ad 0)] σ (some (.int q.1)) q.2 := by
  refine xr_openI [some (.ref (ad 0)), none] xm_X10_tear (Nat.le_of_ble_eq_true rfl) rfl (fun J B RR => ?_)
  unfold xf_X10_tear at hf
  refine xr_aload_n B dX10_tear_0 rfl rfl ?_
  refine xr_getR B xg_X10_51 xh_0 rfl dX10_tear_1 ?_
  refine xr_getI B xg_X10_107 xh_39 rfl dX10_tear_4 ?_
  refine xr_aload_n B dX10_tear_7 rfl rfl ?_
  refine xr_getR B xg_X10_72 xh_0 rfl dX10_tear_8 ?_
  refine xr_getI B xg_X10_110 xh_45 rfl dX10_tear_11 ?_
  refine xr_iadd B dX10_tear_14 ?_
  refine xr_top _ hf (fun v1 hf => ?_)
  refine xr_istore_n B (lv2 := [some (.ref (ad 0)), some (.int v1)]) dX10_tear_15 rfl (by decide) rfl ?_
  refine xr_aload_n B dX10_tear_16 rfl rfl ?_
  refine xr_getR B xg_X10_51 xh_0 rfl dX10_tear_17 ?_
  refine xr_iconst B (v := 0) dX10_tear_20 (by decide) ?_
  refine xq_put B xp_X10_107 rfl rfl xh_39 rfl dX10_tear_21 hf (fun s2 hf => ?_)
  refine xr_aload_n B dX10_tear_24 rfl rfl ?_
  refine xr_getR B xg_X10_72 xh_0 rfl dX10_tear_25 ?_
  refine xr_iconst B (v := 0) dX10_tear_28 (by decide) ?_
  refine xq_put B xp_X10_110 rfl rfl xh_45 rfl dX10_tear_29 hf (fun s3 hf => ?_)
  refine xr_iload_n B dX10_tear_32 rfl rfl ?_
  obtain rfl := Option.some.inj hf
  exact RR _ _ _ dX10_tear_33 rfl

noncomputable def xf_X10_judge (σ : xr_S) : Option Int32 := (xf_X2_firstWrong σ).bind (fun v1 => some v1)
set_option maxRecDepth 100000 in
set_option maxHeartbeats 4000000 in
theorem xc_X10_judge (l : Launch) (D : va_G) (ad : Nat → Nat) (ca : Nat → ClassId) (σ : xr_S) (q : Int32) (hf : xf_X10_judge σ = some q) : xr_M l D ad ca yX10_judge cX10_judge 1 (some .int) 2 45 [.ref (ad 0)] σ (some (.int q)) σ := by
  refine xr_openI [some (.ref (ad 0))] xm_X10_judge (Nat.le_of_ble_eq_true rfl) rfl (fun J B RR => ?_)
  unfold xf_X10_judge at hf
  refine xr_aload_n B dX10_judge_0 rfl rfl ?_
  refine xr_getR B xg_X10_72 xh_0 rfl dX10_judge_1 ?_
  refine xr_aload_n B dX10_judge_4 rfl rfl ?_
  refine xr_getR B xg_X10_26 xh_0 rfl dX10_judge_5 ?_
  refine xr_getR B xg_X10_151 xh_15 rfl dX10_judge_8 ?_
  refine xr_cVi B (rest := []) [.ref (ad 16)] xm_X2_firstWrong xv_X10_264 (fun q hq => xc_X2_firstWrong l D ad ca σ q hq) xh_45 rfl rfl (by decide) rfl (Nat.le_of_ble_eq_true rfl) dX10_judge_11 hf (fun v1 hf => ?_)
  obtain rfl := Option.some.inj hf
  exact RR _ _ _ dX10_judge_14 rfl

noncomputable def xf_X10_seed (σ : xr_S) (a1 : Int32) : Option (Int32 × xr_S) := if 0 ≤ a1 then (xr_v ((σ.1 15 7)) (fun v1 => xr_pf σ 15 7 a1 (fun s2 => some (v1, s2)))) else (some ((-1000000002), σ))
set_option maxRecDepth 100000 in
set_option maxHeartbeats 4000000 in
theorem xc_X10_seed (l : Launch) (D : va_G) (ad : Nat → Nat) (ca : Nat → ClassId) (σ : xr_S) (a1 : Int32) (q : (Int32 × xr_S)) (hf : xf_X10_seed σ a1 = some q) : xr_M l D ad ca yX10_seed cX10_seed 3 (some .int) 0 0 [.ref (ad 0), .int a1] σ (some (.int q.1)) q.2 := by
  refine xr_openI [some (.ref (ad 0)), some (.int a1), none] xm_X10_seed (Nat.le_of_ble_eq_true rfl) rfl (fun J B RR => ?_)
  unfold xf_X10_seed at hf
  refine xr_iload_n B dX10_seed_0 rfl rfl ?_
  refine xr_if_ge B (tgt := 7) dX10_seed_1 (by decide) hf (fun _ hf => ?_) (fun _ hf => ?_)
  · refine xr_aload_n B dX10_seed_7 rfl rfl ?_
    refine xr_getR B xg_X10_26 xh_0 rfl dX10_seed_8 ?_
    refine xr_getI B xg_X10_268 xh_15 rfl dX10_seed_11 ?_
    refine xr_top _ hf (fun v1 hf => ?_)
    refine xr_istore_n B (lv2 := [some (.ref (ad 0)), some (.int a1), some (.int v1)]) dX10_seed_14 rfl (by decide) rfl ?_
    refine xr_aload_n B dX10_seed_15 rfl rfl ?_
    refine xr_getR B xg_X10_26 xh_0 rfl dX10_seed_16 ?_
    refine xr_iload_n B dX10_seed_19 rfl rfl ?_
    refine xq_put B xp_X10_268 rfl rfl xh_15 rfl dX10_seed_20 hf (fun s2 hf => ?_)
    refine xr_iload_n B dX10_seed_23 rfl rfl ?_
    obtain rfl := Option.some.inj hf
    exact RR _ _ _ dX10_seed_24 rfl
  · refine xr_ldc B xk_X10_83 dX10_seed_4 ?_
    obtain rfl := Option.some.inj hf
    exact RR _ _ _ dX10_seed_6 rfl

noncomputable def xf_X10_keep (σ : xr_S) (a1 : Int32) : Option (Int32 × xr_S) := if a1 < 0 then (some ((-1000000001), σ)) else (if a1 < 2 then (xr_lr 2 a1 (fun j1 => (xf_X5_become σ (xr_img j1) 15).bind (fun s2 => xr_pf s2 0 10 ((s2.1 0 10) ||| ((1 : Int32) <<< (a1 &&& 31))) (fun s3 => some (1, s3))))) else (some ((-1000000001), σ)))
set_option maxRecDepth 100000 in
set_option maxHeartbeats 4000000 in
theorem xc_X10_keep (l : Launch) (D : va_G) (ad : Nat → Nat) (ca : Nat → ClassId) (σ : xr_S) (a1 : Int32) (q : (Int32 × xr_S)) (hf : xf_X10_keep σ a1 = some q) : xr_M l D ad ca yX10_keep cX10_keep 2 (some .int) 3 68 [.ref (ad 0), .int a1] σ (some (.int q.1)) q.2 := by
  refine xr_openI [some (.ref (ad 0)), some (.int a1)] xm_X10_keep (Nat.le_of_ble_eq_true rfl) rfl (fun J B RR => ?_)
  unfold xf_X10_keep at hf
  refine xr_iload_n B dX10_keep_0 rfl rfl ?_
  refine xr_if_lt B (tgt := 9) dX10_keep_1 (by decide) hf (fun _ hf => ?_) (fun _ hf => ?_)
  · refine xr_ldc B xk_X10_150 dX10_keep_9 ?_
    obtain rfl := Option.some.inj hf
    exact RR _ _ _ dX10_keep_11 rfl
  · refine xr_iload_n B dX10_keep_4 rfl rfl ?_
    refine xr_iconst B (v := 2) dX10_keep_5 (by decide) ?_
    refine xr_ic_lt B (tgt := 12) dX10_keep_6 (by decide) hf (fun _ hf => ?_) (fun _ hf => ?_)
    · refine xr_aload_n B dX10_keep_12 rfl rfl ?_
      refine xr_getR B xg_X10_30 xh_0 rfl dX10_keep_13 ?_
      refine xr_iload_n B dX10_keep_16 rfl rfl ?_
      refine xq_aald B xh_20 dX10_keep_17 hf (fun j1 hlj1 hf => ?_)
      refine xr_aload_n B dX10_keep_18 rfl rfl ?_
      refine xr_getR B xg_X10_26 xh_0 rfl dX10_keep_19 ?_
      refine xr_cVv B (rest := []) [.ref (ad 15)] xm_X5_become xv_X10_271 (fun q hq => xc_X5_become l D ad ca σ (xr_img j1) 15 (xr_isS_img hlj1) ⟨xh_15, ⟨xh_16, xh_17⟩, xh_18, xh_19⟩ q hq) (xr_isS_img hlj1).1 rfl rfl (by decide) rfl (Nat.le_of_ble_eq_true rfl) dX10_keep_22 hf (fun s2 hf => ?_)
      refine xr_aload_n B dX10_keep_25 rfl rfl ?_
      refine xr_dup B dX10_keep_26 rfl ?_
      refine xr_getI B xg_X10_76 xh_0 rfl dX10_keep_27 ?_
      refine xr_iconst B (v := 1) dX10_keep_30 (by decide) ?_
      refine xr_iload_n B dX10_keep_31 rfl rfl ?_
      refine xr_ishl B dX10_keep_32 ?_
      refine xr_ior B dX10_keep_33 ?_
      refine xq_put B xp_X10_76 rfl rfl xh_0 rfl dX10_keep_34 hf (fun s3 hf => ?_)
      refine xr_iconst B (v := 1) dX10_keep_37 (by decide) ?_
      obtain rfl := Option.some.inj hf
      exact RR _ _ _ dX10_keep_38 rfl
    · refine xr_ldc B xk_X10_150 dX10_keep_9 ?_
      obtain rfl := Option.some.inj hf
      exact RR _ _ _ dX10_keep_11 rfl

noncomputable def xf_X10_goBack (σ : xr_S) (a1 : Int32) : Option (Int32 × xr_S) := if a1 < 0 then (some ((-1000000001), σ)) else (if a1 < 2 then ((xf_X10_bit σ (σ.1 0 10) a1).bind (fun v1 => if v1 = 0 then (some ((-1000000003), σ)) else (xr_lr 2 a1 (fun j2 => (xf_X5_become σ 15 (xr_img j2)).bind (fun s3 => some (1, s3)))))) else (some ((-1000000001), σ)))
set_option maxRecDepth 100000 in
set_option maxHeartbeats 4000000 in
theorem xc_X10_goBack (l : Launch) (D : va_G) (ad : Nat → Nat) (ca : Nat → ClassId) (σ : xr_S) (a1 : Int32) (q : (Int32 × xr_S)) (hf : xf_X10_goBack σ a1 = some q) : xr_M l D ad ca yX10_goBack cX10_goBack 2 (some .int) 3 68 [.ref (ad 0), .int a1] σ (some (.int q.1)) q.2 := by
  refine xr_openI [some (.ref (ad 0)), some (.int a1)] xm_X10_goBack (Nat.le_of_ble_eq_true rfl) rfl (fun J B RR => ?_)
  unfold xf_X10_goBack at hf
  refine xr_iload_n B dX10_goBack_0 rfl rfl ?_
  refine xr_if_lt B (tgt := 9) dX10_goBack_1 (by decide) hf (fun _ hf => ?_) (fun _ hf => ?_)
  · refine xr_ldc B xk_X10_150 dX10_goBack_9 ?_
    obtain rfl := Option.some.inj hf
    exact RR _ _ _ dX10_goBack_11 rfl
  · refine xr_iload_n B dX10_goBack_4 rfl rfl ?_
    refine xr_iconst B (v := 2) dX10_goBack_5 (by decide) ?_
    refine xr_ic_lt B (tgt := 12) dX10_goBack_6 (by decide) hf (fun _ hf => ?_) (fun _ hf => ?_)
    · refine xr_aload_n B dX10_goBack_12 rfl rfl ?_
      refine xr_getI B xg_X10_76 xh_0 rfl dX10_goBack_13 ?_
      refine xr_iload_n B dX10_goBack_16 rfl rfl ?_
      refine xr_cSi B (rest := []) [.int (σ.1 0 10), .int a1] xm_X10_bit xs_X10_190 (fun q hq => xc_X10_bit l D ad ca σ (σ.1 0 10) a1 q hq) rfl (by decide) rfl (Nat.le_of_ble_eq_true rfl) dX10_goBack_17 hf (fun v1 hf => ?_)
      refine xr_if_ne B (tgt := 26) dX10_goBack_20 (by decide) hf (fun _ hf => ?_) (fun _ hf => ?_)
      · refine xr_ldc B xk_X10_193 dX10_goBack_23 ?_
        obtain rfl := Option.some.inj hf
        exact RR _ _ _ dX10_goBack_25 rfl
      · refine xr_aload_n B dX10_goBack_26 rfl rfl ?_
        refine xr_getR B xg_X10_26 xh_0 rfl dX10_goBack_27 ?_
        refine xr_aload_n B dX10_goBack_30 rfl rfl ?_
        refine xr_getR B xg_X10_30 xh_0 rfl dX10_goBack_31 ?_
        refine xr_iload_n B dX10_goBack_34 rfl rfl ?_
        refine xq_aald B xh_20 dX10_goBack_35 hf (fun j2 hlj2 hf => ?_)
        refine xr_cVv B (rest := []) [.ref (ad (xr_img j2))] xm_X5_become xv_X10_271 (fun q hq => xc_X5_become l D ad ca σ 15 (xr_img j2) ⟨xh_15, ⟨xh_16, xh_17⟩, xh_18, xh_19⟩ (xr_isS_img hlj2) q hq) xh_15 rfl rfl (by decide) rfl (Nat.le_of_ble_eq_true rfl) dX10_goBack_36 hf (fun s3 hf => ?_)
        refine xr_iconst B (v := 1) dX10_goBack_39 (by decide) ?_
        obtain rfl := Option.some.inj hf
        exact RR _ _ _ dX10_goBack_40 rfl
    · refine xr_ldc B xk_X10_150 dX10_goBack_9 ?_
      obtain rfl := Option.some.inj hf
      exact RR _ _ _ dX10_goBack_11 rfl
