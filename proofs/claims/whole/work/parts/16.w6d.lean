noncomputable def xf_X11_findCrumbs_L9  (K4 : xr_S → Option (Int32 × xr_S)) (t1 : (Int32 × xr_S)) (rec2 : (Int32 × xr_S) → Option (Int32 × xr_S)) : Option (Int32 × xr_S) := if 7 ≤ t1.1 then (K4 t1.2) else (xr_st t1.2 62 7 t1.1 (-1) (fun s5 => xr_st s5 63 7 t1.1 (-1) (fun s6 => rec2 ((t1.1 + 1), s6))))
noncomputable def xf_X11_findCrumbs_L53 (t8 : (Int32 × Int32 × Int32 × xr_S)) (K15 : xr_S → Option (Int32 × xr_S)) (t12 : (Int32 × xr_S)) (rec13 : (Int32 × xr_S) → Option (Int32 × xr_S)) : Option (Int32 × xr_S) := if (t12.2.1 49 5) ≤ t12.1 then (K15 t12.2) else (xr_jn (fun (w16 : Int32) => xr_st t12.2 63 7 t12.1 w16 (fun s18 => rec13 ((t12.1 + 1), s18))) (fun j17 => xr_jn (fun (w20 : Unit) => xr_ld t12.2 62 7 t12.1 (fun v22 => j17 v22)) (fun j21 => if t8.1 = 0 then (j21 ()) else (xr_ld t12.2 63 7 t12.1 (fun v23 => xr_ld t12.2 62 7 t12.1 (fun v24 => if v23 = v24 then (j21 ()) else (j17 (-1))))))))
noncomputable def xf_X11_findCrumbs_L211 (t8 : (Int32 × Int32 × Int32 × xr_S)) (v31 : Int32) (K37 : Int32 → Option (Int32 × xr_S)) (t34 : Int32) (rec35 : Int32 → Option (Int32 × xr_S)) : Option (Int32 × xr_S) := if (t8.2.2.2.1 49 4) ≤ t34 then (K37 t34) else ((xf_X11_has t8.2.2.2 v31 t34).bind (fun v38 => xr_jn (fun (w39 : Unit) => rec35 (t34 + 1)) (fun j40 => if v38 = 0 then (xr_ld t8.2.2.2 52 7 t8.2.1 (fun v42 => if t34 = v42 then (j40 ()) else (xr_ld t8.2.2.2 50 220 (37 + t8.2.1) (fun v43 => (xf_X11_weightOf t8.2.2.2 0 t34 v43).bind (fun v44 => if v44 = 0 then (j40 ()) else (K37 t34)))))) else (j40 ()))))
noncomputable def xf_X11_findCrumbs_L38  (K11 : (Int32 × xr_S) → Option (Int32 × xr_S)) (t8 : (Int32 × Int32 × Int32 × xr_S)) (rec9 : (Int32 × Int32 × Int32 × xr_S) → Option (Int32 × xr_S)) : Option (Int32 × xr_S) := if t8.2.1 < 0 then (K11 (t8.1, t8.2.2.2)) else (if t8.2.1 = (t8.2.2.2.1 49 5) then (xr_lw (xf_X11_findCrumbs_L53 t8 (fun (e14 : xr_S) => rec9 ((t8.1 + 1), (t8.2.1 + (-1)), t8.2.2.1, e14))) (0, t8.2.2.2)) else ((xf_X11_isFresh t8.2.2.2 t8.2.1).bind (fun v27 => if v27 = 0 then (xr_ld t8.2.2.2 62 7 t8.2.1 (fun v28 => xr_jn (fun (w29 : Int32) => xr_v ((t8.2.2.1 &&& w29)) (fun v31 => xr_ld t8.2.2.2 62 7 t8.2.1 (fun v32 => xr_v ((v32 + 1)) (fun v33 => xr_lw (xf_X11_findCrumbs_L211 t8 v31 (fun (e36 : Int32) => xr_jn (fun (w45 : Int32) => xr_jn (fun (w47 : Int32) => xr_st t8.2.2.2 62 7 t8.2.1 w47 (fun s49 => xr_jn (fun (w50 : Int32) => xr_v ((v31 ||| w50)) (fun v52 => xr_jn (fun (w53 : Int32) => xr_v ((t8.2.1 + w53)) (fun v55 => rec9 (t8.1, v55, v52, s49))) (fun j54 => if w45 = 0 then (j54 (-1)) else (j54 1)))) (fun j51 => if w45 = 0 then (j51 0) else (j51 ((1 : Int32) <<< (e36 &&& 31)))))) (fun j48 => if w45 = 0 then (j48 (-1)) else (j48 e36))) (fun j46 => if (t8.2.2.2.1 49 4) ≤ e36 then (j46 0) else (j46 1)))) v33)))) (fun j30 => if v28 = (-1) then (j30 (-1)) else (xr_ld t8.2.2.2 62 7 t8.2.1 (fun v56 => j30 (((1 : Int32) <<< (v56 &&& 31)) ^^^ (-1))))))) else (xr_ld t8.2.2.2 62 7 t8.2.1 (fun v57 => xr_jn (fun (w58 : Int32) => xr_jn (fun (w60 : Int32) => xr_st t8.2.2.2 62 7 t8.2.1 w60 (fun s62 => xr_jn (fun (w63 : Int32) => xr_v ((t8.2.1 + w63)) (fun v65 => rec9 (t8.1, v65, t8.2.2.1, s62))) (fun j64 => if w58 = 0 then (j64 (-1)) else (j64 1)))) (fun j61 => if w58 = 0 then (j61 (-1)) else (j61 (-2)))) (fun j59 => if v57 = (-1) then (j59 1) else (j59 0)))))))
noncomputable def xf_X11_findCrumbs (σ : xr_S) : Option (Int32 × xr_S) := xr_lw (xf_X11_findCrumbs_L9 (fun (e3 : xr_S) => xr_lw (xf_X11_findCrumbs_L38 (fun (e10 : (Int32 × xr_S)) => some (e10.1, e10.2))) (0, 0, 0, e3))) (0, σ)
set_option maxRecDepth 100000 in
set_option maxHeartbeats 4000000 in
theorem xc_X11_findCrumbs (l : Launch) (D : va_G) (ad : Nat → Nat) (ca : Nat → ClassId) (σ : xr_S) (q : (Int32 × xr_S)) (hf : xf_X11_findCrumbs σ = some q) : xr_M l D ad ca yX11_findCrumbs cX11_findCrumbs 6 (some .int) 1 23 [.ref (ad 49)] σ (some (.int q.1)) q.2 := by
  refine xr_openI [some (.ref (ad 49)), none, none, none, none, none] xm_X11_findCrumbs (Nat.le_of_ble_eq_true rfl) rfl (fun J B RR => ?_)
  unfold xf_X11_findCrumbs at hf
  refine xr_iconst B (v := 0) dX11_findCrumbs_0 (by decide) ?_
  refine xr_istore_n B (lv2 := [some (.ref (ad 49)), some (.int 0), none, none, none, none]) dX11_findCrumbs_1 rfl (by decide) rfl ?_
  refine xr_iconst B (v := 0) dX11_findCrumbs_2 (by decide) ?_
  refine xr_istore_n B (lv2 := [some (.ref (ad 49)), some (.int 0), some (.int 0), none, none, none]) dX11_findCrumbs_3 rfl (by decide) rfl ?_
  refine xr_iconst B (v := 0) dX11_findCrumbs_4 (by decide) ?_
  refine xr_istore_n B (lv2 := [some (.ref (ad 49)), some (.int 0), some (.int 0), some (.int 0), none, none]) dX11_findCrumbs_5 rfl (by decide) rfl ?_
  refine xr_iconst B (v := 0) dX11_findCrumbs_6 (by decide) ?_
  refine xr_istore B (lv2 := [some (.ref (ad 49)), some (.int 0), some (.int 0), some (.int 0), some (.int 0), none]) dX11_findCrumbs_7 (by decide) rfl ?_
  refine xq_loop (fun (t1 : (Int32 × xr_S)) => J 9 [some (.ref (ad 49)), some (.int 0), some (.int 0), some (.int 0), some (.int t1.1), none] [] t1.2) (fun (e3 : xr_S) => J 38 [some (.ref (ad 49)), some (.int 0), some (.int 0), some (.int 0), none, none] [] e3) hf (fun e3 hf => ?_) (fun K4 hK4 t1 rec2 hrec2 hf => ?_)
  · refine xq_loop (fun (t8 : (Int32 × Int32 × Int32 × xr_S)) => J 38 [some (.ref (ad 49)), some (.int t8.1), some (.int t8.2.1), some (.int t8.2.2.1), none, none] [] t8.2.2.2) (fun (e10 : (Int32 × xr_S)) => J 330 [none, some (.int e10.1), none, none, none, none] [] e10.2) hf (fun e10 hf => ?_) (fun K11 hK11 t8 rec9 hrec9 hf => ?_)
    · refine xr_iload_n B dX11_findCrumbs_330 rfl rfl ?_
      obtain rfl := Option.some.inj hf
      exact RR _ _ _ dX11_findCrumbs_331 rfl
    · have hrec9 : ∀ (b1 : Int32) (b2 : Int32) (b3 : Int32) (b4 : xr_S), rec9 (b1, b2, b3, b4) = some q → J 38 [some (.ref (ad 49)), some (.int b1), some (.int b2), some (.int b3), none, none] [] b4 := fun b1 b2 b3 b4 h => hrec9 (b1, b2, b3, b4) h
      have hK11 : ∀ (b1 : Int32) (b2 : xr_S), K11 (b1, b2) = some q → J 330 [none, some (.int b1), none, none, none, none] [] b2 := fun b1 b2 h => hK11 (b1, b2) h
      unfold xf_X11_findCrumbs_L38 at hf
      refine xr_iload_n B dX11_findCrumbs_38 rfl rfl ?_
      refine xr_if_lt B (tgt := 330) dX11_findCrumbs_39 (by decide) hf (fun _ hf => ?_) (fun _ hf => ?_)
      · refine xr_forget B (lv2 := [none, some (.int t8.1), none, none, none, none]) ⟨rfl, trivial⟩ ?_
        exact hK11 t8.1 t8.2.2.2 hf
      · refine xr_iload_n B dX11_findCrumbs_42 rfl rfl ?_
        refine xr_aload_n B dX11_findCrumbs_43 rfl rfl ?_
        refine xr_getI B xg_X11_83 xh_49 rfl dX11_findCrumbs_44 ?_
        refine xr_ic_ne B (tgt := 116) dX11_findCrumbs_47 (by decide) hf (fun _ hf => ?_) (fun _ hf => ?_)
        · refine xr_iconst B (v := 0) dX11_findCrumbs_50 (by decide) ?_
          refine xr_istore B (lv2 := [some (.ref (ad 49)), some (.int t8.1), some (.int t8.2.1), some (.int t8.2.2.1), some (.int 0), none]) dX11_findCrumbs_51 (by decide) rfl ?_
          refine xq_loop (fun (t12 : (Int32 × xr_S)) => J 53 [some (.ref (ad 49)), some (.int t8.1), some (.int t8.2.1), some (.int t8.2.2.1), some (.int t12.1), none] [] t12.2) (fun (e14 : xr_S) => J 107 [some (.ref (ad 49)), some (.int t8.1), some (.int t8.2.1), some (.int t8.2.2.1), none, none] [] e14) hf (fun e14 hf => ?_) (fun K15 hK15 t12 rec13 hrec13 hf => ?_)
          · refine xr_iinc B (v := (t8.1 + 1)) (lv2 := [some (.ref (ad 49)), some (.int (t8.1 + 1)), some (.int t8.2.1), some (.int t8.2.2.1), none, none]) dX11_findCrumbs_107 rfl (congrArg (t8.1 + ·) (by decide : Int32.ofInt (1) = 1)) (by decide) rfl ?_
            refine xr_iinc B (v := (t8.2.1 + (-1))) (lv2 := [some (.ref (ad 49)), some (.int (t8.1 + 1)), some (.int (t8.2.1 + (-1))), some (.int t8.2.2.1), none, none]) dX11_findCrumbs_110 rfl (congrArg (t8.2.1 + ·) (by decide : Int32.ofInt (-1) = -1)) (by decide) rfl ?_
            refine xr_goto B (tgt := 38) dX11_findCrumbs_113 (by decide) ?_
            exact hrec9 (t8.1 + 1) (t8.2.1 + (-1)) t8.2.2.1 e14 hf
          · have hrec13 : ∀ (b1 : Int32) (b2 : xr_S), rec13 (b1, b2) = some q → J 53 [some (.ref (ad 49)), some (.int t8.1), some (.int t8.2.1), some (.int t8.2.2.1), some (.int b1), none] [] b2 := fun b1 b2 h => hrec13 (b1, b2) h
            unfold xf_X11_findCrumbs_L53 at hf
            refine xr_iload B dX11_findCrumbs_53 rfl ?_
            refine xr_aload_n B dX11_findCrumbs_55 rfl rfl ?_
            refine xr_getI B xg_X11_83 xh_49 rfl dX11_findCrumbs_56 ?_
            refine xr_ic_ge B (tgt := 107) dX11_findCrumbs_59 (by decide) hf (fun _ hf => ?_) (fun _ hf => ?_)
            · refine xr_forget B (lv2 := [some (.ref (ad 49)), some (.int t8.1), some (.int t8.2.1), some (.int t8.2.2.1), none, none]) ⟨rfl, ⟨rfl, ⟨rfl, ⟨rfl, trivial⟩⟩⟩⟩ ?_
              exact hK15 t12.2 hf
            · refine xr_aload_n B dX11_findCrumbs_62 rfl rfl ?_
              refine xr_getR B xg_X11_54 xh_49 rfl dX11_findCrumbs_63 ?_
              refine xr_iload B dX11_findCrumbs_66 rfl ?_
              refine xr_iload_n B dX11_findCrumbs_68 rfl rfl ?_
              refine xr_meet (fun (w16 : Int32) => J 100 [some (.ref (ad 49)), some (.int t8.1), some (.int t8.2.1), some (.int t8.2.2.1), some (.int t12.1), none] [.int w16, .int t12.1, .ref (ad 63)] t12.2) hf (fun w16 hf => ?_) (fun j17 hj17 hf => ?_)
              · refine xq_iast B xh_63 dX11_findCrumbs_100 hf (fun s18 hf => ?_)
                refine xr_iinc B (v := (t12.1 + 1)) (lv2 := [some (.ref (ad 49)), some (.int t8.1), some (.int t8.2.1), some (.int t8.2.2.1), some (.int (t12.1 + 1)), none]) dX11_findCrumbs_101 rfl (congrArg (t12.1 + ·) (by decide : Int32.ofInt (1) = 1)) (by decide) rfl ?_
                refine xr_goto B (tgt := 53) dX11_findCrumbs_104 (by decide) ?_
                exact hrec13 (t12.1 + 1) s18 hf
              · refine xr_meet (fun (w20 : Unit) => J 89 [some (.ref (ad 49)), some (.int t8.1), some (.int t8.2.1), some (.int t8.2.2.1), some (.int t12.1), none] [.int t12.1, .ref (ad 63)] t12.2) hf (fun w20 hf => ?_) (fun j21 hj21 hf => ?_)
                · refine xr_aload_n B dX11_findCrumbs_89 rfl rfl ?_
                  refine xr_getR B xg_X11_51 xh_49 rfl dX11_findCrumbs_90 ?_
                  refine xr_iload B dX11_findCrumbs_93 rfl ?_
                  refine xq_iald B xh_62 dX11_findCrumbs_95 hf (fun v22 hf => ?_)
                  refine xr_goto B (tgt := 100) dX11_findCrumbs_96 (by decide) ?_
                  exact hj17 v22 hf
                · refine xr_if_eq B (tgt := 89) dX11_findCrumbs_69 (by decide) hf (fun _ hf => ?_) (fun _ hf => ?_)
                  · exact hj21 () hf
                  · refine xr_aload_n B dX11_findCrumbs_72 rfl rfl ?_
                    refine xr_getR B xg_X11_54 xh_49 rfl dX11_findCrumbs_73 ?_
                    refine xr_iload B dX11_findCrumbs_76 rfl ?_
                    refine xq_iald B xh_63 dX11_findCrumbs_78 hf (fun v23 hf => ?_)
                    refine xr_aload_n B dX11_findCrumbs_79 rfl rfl ?_
                    refine xr_getR B xg_X11_51 xh_49 rfl dX11_findCrumbs_80 ?_
                    refine xr_iload B dX11_findCrumbs_83 rfl ?_
                    refine xq_iald B xh_62 dX11_findCrumbs_85 hf (fun v24 hf => ?_)
                    refine xr_ic_ne B (tgt := 99) dX11_findCrumbs_86 (by decide) hf (fun _ hf => ?_) (fun _ hf => ?_)
                    · exact hj21 () hf
                    · refine xr_iconst B (v := (-1)) dX11_findCrumbs_99 (by decide) ?_
                      exact hj17 (-1) hf
        · refine xr_aload_n B dX11_findCrumbs_116 rfl rfl ?_
          refine xr_iload_n B dX11_findCrumbs_117 rfl rfl ?_
          refine xr_cVi B (rest := []) [.int t8.2.1] xm_X11_isFresh xv_X11_209 (fun q hq => xc_X11_isFresh l D ad ca t8.2.2.2 t8.2.1 q hq) xh_49 rfl rfl (by decide) rfl (Nat.le_of_ble_eq_true rfl) dX11_findCrumbs_118 hf (fun v27 hf => ?_)
          refine xr_if_eq B (tgt := 174) dX11_findCrumbs_121 (by decide) hf (fun _ hf => ?_) (fun _ hf => ?_)
          · refine xr_iload_n B dX11_findCrumbs_174 rfl rfl ?_
            refine xr_aload_n B dX11_findCrumbs_175 rfl rfl ?_
            refine xr_getR B xg_X11_51 xh_49 rfl dX11_findCrumbs_176 ?_
            refine xr_iload_n B dX11_findCrumbs_179 rfl rfl ?_
            refine xq_iald B xh_62 dX11_findCrumbs_180 hf (fun v28 hf => ?_)
            refine xr_iconst B (v := (-1)) dX11_findCrumbs_181 (by decide) ?_
            refine xr_meet (fun (w29 : Int32) => J 199 [some (.ref (ad 49)), some (.int t8.1), some (.int t8.2.1), none, none, none] [.int w29, .int t8.2.2.1] t8.2.2.2) hf (fun w29 hf => ?_) (fun j30 hj30 hf => ?_)
            · refine xr_iand B dX11_findCrumbs_199 ?_
              refine xr_top _ hf (fun v31 hf => ?_)
              refine xr_istore_n B (lv2 := [some (.ref (ad 49)), some (.int t8.1), some (.int t8.2.1), some (.int v31), none, none]) dX11_findCrumbs_200 rfl (by decide) rfl ?_
              refine xr_aload_n B dX11_findCrumbs_201 rfl rfl ?_
              refine xr_getR B xg_X11_51 xh_49 rfl dX11_findCrumbs_202 ?_
              refine xr_iload_n B dX11_findCrumbs_205 rfl rfl ?_
              refine xq_iald B xh_62 dX11_findCrumbs_206 hf (fun v32 hf => ?_)
              refine xr_iconst B (v := 1) dX11_findCrumbs_207 (by decide) ?_
              refine xr_iadd B dX11_findCrumbs_208 ?_
              refine xr_top _ hf (fun v33 hf => ?_)
              refine xr_istore B (lv2 := [some (.ref (ad 49)), some (.int t8.1), some (.int t8.2.1), some (.int v31), some (.int v33), none]) dX11_findCrumbs_209 (by decide) rfl ?_
              refine xq_loop (fun (t34 : Int32) => J 211 [some (.ref (ad 49)), some (.int t8.1), some (.int t8.2.1), some (.int v31), some (.int t34), none] [] t8.2.2.2) (fun (e36 : Int32) => J 265 [some (.ref (ad 49)), some (.int t8.1), some (.int t8.2.1), some (.int v31), some (.int e36), none] [] t8.2.2.2) hf (fun e36 hf => ?_) (fun K37 hK37 t34 rec35 hrec35 hf => ?_)
              · refine xr_iload B dX11_findCrumbs_265 rfl ?_
                refine xr_aload_n B dX11_findCrumbs_267 rfl rfl ?_
                refine xr_getI B xg_X11_73 xh_49 rfl dX11_findCrumbs_268 ?_
                refine xr_meet (fun (w45 : Int32) => J 279 [some (.ref (ad 49)), some (.int t8.1), some (.int t8.2.1), some (.int v31), some (.int e36), none] [.int w45] t8.2.2.2) hf (fun w45 hf => ?_) (fun j46 hj46 hf => ?_)
                · refine xr_istore B (lv2 := [some (.ref (ad 49)), some (.int t8.1), some (.int t8.2.1), some (.int v31), some (.int e36), some (.int w45)]) dX11_findCrumbs_279 (by decide) rfl ?_
                  refine xr_aload_n B dX11_findCrumbs_281 rfl rfl ?_
                  refine xr_getR B xg_X11_51 xh_49 rfl dX11_findCrumbs_282 ?_
                  refine xr_iload_n B dX11_findCrumbs_285 rfl rfl ?_
                  refine xr_iload B dX11_findCrumbs_286 rfl ?_
                  refine xr_meet (fun (w47 : Int32) => J 297 [some (.ref (ad 49)), some (.int t8.1), some (.int t8.2.1), some (.int v31), some (.int e36), some (.int w45)] [.int w47, .int t8.2.1, .ref (ad 62)] t8.2.2.2) hf (fun w47 hf => ?_) (fun j48 hj48 hf => ?_)
                  · refine xq_iast B xh_62 dX11_findCrumbs_297 hf (fun s49 hf => ?_)
                    refine xr_iload_n B dX11_findCrumbs_298 rfl rfl ?_
                    refine xr_iload B dX11_findCrumbs_299 rfl ?_
                    refine xr_meet (fun (w50 : Int32) => J 312 [some (.ref (ad 49)), some (.int t8.1), some (.int t8.2.1), none, none, some (.int w45)] [.int w50, .int v31] s49) hf (fun w50 hf => ?_) (fun j51 hj51 hf => ?_)
                    · refine xr_ior B dX11_findCrumbs_312 ?_
                      refine xr_top _ hf (fun v52 hf => ?_)
                      refine xr_istore_n B (lv2 := [some (.ref (ad 49)), some (.int t8.1), some (.int t8.2.1), some (.int v52), none, some (.int w45)]) dX11_findCrumbs_313 rfl (by decide) rfl ?_
                      refine xr_iload_n B dX11_findCrumbs_314 rfl rfl ?_
                      refine xr_iload B dX11_findCrumbs_315 rfl ?_
                      refine xr_meet (fun (w53 : Int32) => J 325 [some (.ref (ad 49)), some (.int t8.1), none, some (.int v52), none, none] [.int w53, .int t8.2.1] s49) hf (fun w53 hf => ?_) (fun j54 hj54 hf => ?_)
                      · refine xr_iadd B dX11_findCrumbs_325 ?_
                        refine xr_top _ hf (fun v55 hf => ?_)
                        refine xr_istore_n B (lv2 := [some (.ref (ad 49)), some (.int t8.1), some (.int v55), some (.int v52), none, none]) dX11_findCrumbs_326 rfl (by decide) rfl ?_
                        refine xr_goto B (tgt := 38) dX11_findCrumbs_327 (by decide) ?_
                        exact hrec9 t8.1 v55 v52 s49 hf
                      · refine xr_if_eq B (tgt := 324) dX11_findCrumbs_317 (by decide) hf (fun _ hf => ?_) (fun _ hf => ?_)
                        · refine xr_iconst B (v := (-1)) dX11_findCrumbs_324 (by decide) ?_
                          refine xr_forget B (lv2 := [some (.ref (ad 49)), some (.int t8.1), none, some (.int v52), none, none]) ⟨rfl, ⟨rfl, ⟨rfl, trivial⟩⟩⟩ ?_
                          exact hj54 (-1) hf
                        · refine xr_iconst B (v := 1) dX11_findCrumbs_320 (by decide) ?_
                          refine xr_goto B (tgt := 325) dX11_findCrumbs_321 (by decide) ?_
                          refine xr_forget B (lv2 := [some (.ref (ad 49)), some (.int t8.1), none, some (.int v52), none, none]) ⟨rfl, ⟨rfl, ⟨rfl, trivial⟩⟩⟩ ?_
                          exact hj54 1 hf
                    · refine xr_if_eq B (tgt := 311) dX11_findCrumbs_301 (by decide) hf (fun _ hf => ?_) (fun _ hf => ?_)
                      · refine xr_iconst B (v := 0) dX11_findCrumbs_311 (by decide) ?_
                        refine xr_forget B (lv2 := [some (.ref (ad 49)), some (.int t8.1), some (.int t8.2.1), none, none, some (.int w45)]) ⟨rfl, ⟨rfl, ⟨rfl, ⟨rfl, trivial⟩⟩⟩⟩ ?_
                        exact hj51 0 hf
                      · refine xr_iconst B (v := 1) dX11_findCrumbs_304 (by decide) ?_
                        refine xr_iload B dX11_findCrumbs_305 rfl ?_
                        refine xr_ishl B dX11_findCrumbs_307 ?_
                        refine xr_goto B (tgt := 312) dX11_findCrumbs_308 (by decide) ?_
                        refine xr_forget B (lv2 := [some (.ref (ad 49)), some (.int t8.1), some (.int t8.2.1), none, none, some (.int w45)]) ⟨rfl, ⟨rfl, ⟨rfl, ⟨rfl, trivial⟩⟩⟩⟩ ?_
                        exact hj51 ((1 : Int32) <<< (e36 &&& 31)) hf
                  · refine xr_if_eq B (tgt := 296) dX11_findCrumbs_288 (by decide) hf (fun _ hf => ?_) (fun _ hf => ?_)
                    · refine xr_iconst B (v := (-1)) dX11_findCrumbs_296 (by decide) ?_
                      exact hj48 (-1) hf
                    · refine xr_iload B dX11_findCrumbs_291 rfl ?_
                      refine xr_goto B (tgt := 297) dX11_findCrumbs_293 (by decide) ?_
                      exact hj48 e36 hf
                · refine xr_ic_ge B (tgt := 278) dX11_findCrumbs_271 (by decide) hf (fun _ hf => ?_) (fun _ hf => ?_)
                  · refine xr_iconst B (v := 0) dX11_findCrumbs_278 (by decide) ?_
                    exact hj46 0 hf
                  · refine xr_iconst B (v := 1) dX11_findCrumbs_274 (by decide) ?_
                    refine xr_goto B (tgt := 279) dX11_findCrumbs_275 (by decide) ?_
                    exact hj46 1 hf
              · unfold xf_X11_findCrumbs_L211 at hf
                refine xr_iload B dX11_findCrumbs_211 rfl ?_
                refine xr_aload_n B dX11_findCrumbs_213 rfl rfl ?_
                refine xr_getI B xg_X11_73 xh_49 rfl dX11_findCrumbs_214 ?_
                refine xr_ic_ge B (tgt := 265) dX11_findCrumbs_217 (by decide) hf (fun _ hf => ?_) (fun _ hf => ?_)
                · exact hK37 t34 hf
                · refine xr_iload_n B dX11_findCrumbs_220 rfl rfl ?_
                  refine xr_iload B dX11_findCrumbs_221 rfl ?_
                  refine xr_cSi B (rest := []) [.int v31, .int t34] xm_X11_has xs_X11_215 (fun q hq => xc_X11_has l D ad ca t8.2.2.2 v31 t34 q hq) rfl (by decide) rfl (Nat.le_of_ble_eq_true rfl) dX11_findCrumbs_223 hf (fun v38 hf => ?_)
                  refine xr_meet (fun (w39 : Unit) => J 259 [some (.ref (ad 49)), some (.int t8.1), some (.int t8.2.1), some (.int v31), some (.int t34), none] [] t8.2.2.2) hf (fun w39 hf => ?_) (fun j40 hj40 hf => ?_)
                  · refine xr_iinc B (v := (t34 + 1)) (lv2 := [some (.ref (ad 49)), some (.int t8.1), some (.int t8.2.1), some (.int v31), some (.int (t34 + 1)), none]) dX11_findCrumbs_259 rfl (congrArg (t34 + ·) (by decide : Int32.ofInt (1) = 1)) (by decide) rfl ?_
                    refine xr_goto B (tgt := 211) dX11_findCrumbs_262 (by decide) ?_
                    exact hrec35 (t34 + 1) hf
                  · refine xr_if_ne B (tgt := 259) dX11_findCrumbs_226 (by decide) hf (fun _ hf => ?_) (fun _ hf => ?_)
                    · refine xr_iload B dX11_findCrumbs_229 rfl ?_
                      refine xr_aload_n B dX11_findCrumbs_231 rfl rfl ?_
                      refine xr_getR B xg_X11_17 xh_49 rfl dX11_findCrumbs_232 ?_
                      refine xr_iload_n B dX11_findCrumbs_235 rfl rfl ?_
                      refine xq_iald B xh_52 dX11_findCrumbs_236 hf (fun v42 hf => ?_)
                      refine xr_ic_eq B (tgt := 259) dX11_findCrumbs_237 (by decide) hf (fun _ hf => ?_) (fun _ hf => ?_)
                      · exact hj40 () hf
                      · refine xr_aload_n B dX11_findCrumbs_240 rfl rfl ?_
                        refine xr_iconst B (v := 0) dX11_findCrumbs_241 (by decide) ?_
                        refine xr_iload B dX11_findCrumbs_242 rfl ?_
                        refine xr_aload_n B dX11_findCrumbs_244 rfl rfl ?_
                        refine xr_getR B xg_X11_7 xh_49 rfl dX11_findCrumbs_245 ?_
                        refine xr_bipush B (v := 37) dX11_findCrumbs_248 (by decide) ?_
                        refine xr_iload_n B dX11_findCrumbs_250 rfl rfl ?_
                        refine xr_iadd B dX11_findCrumbs_251 ?_
                        refine xq_iald B xh_50 dX11_findCrumbs_252 hf (fun v43 hf => ?_)
                        refine xr_cVi B (rest := []) [.int 0, .int t34, .int v43] xm_X11_weightOf xv_X11_182 (fun q hq => xc_X11_weightOf l D ad ca t8.2.2.2 0 t34 v43 q hq) xh_49 rfl rfl (by decide) rfl (Nat.le_of_ble_eq_true rfl) dX11_findCrumbs_253 hf (fun v44 hf => ?_)
                        refine xr_if_ne B (tgt := 265) dX11_findCrumbs_256 (by decide) hf (fun _ hf => ?_) (fun _ hf => ?_)
                        · exact hj40 () hf
                        · exact hK37 t34 hf
                    · exact hj40 () hf
            · refine xr_ic_ne B (tgt := 189) dX11_findCrumbs_182 (by decide) hf (fun _ hf => ?_) (fun _ hf => ?_)
              · refine xr_iconst B (v := (-1)) dX11_findCrumbs_185 (by decide) ?_
                refine xr_goto B (tgt := 199) dX11_findCrumbs_186 (by decide) ?_
                refine xr_forget B (lv2 := [some (.ref (ad 49)), some (.int t8.1), some (.int t8.2.1), none, none, none]) ⟨rfl, ⟨rfl, ⟨rfl, trivial⟩⟩⟩ ?_
                exact hj30 (-1) hf
              · refine xr_iconst B (v := 1) dX11_findCrumbs_189 (by decide) ?_
                refine xr_aload_n B dX11_findCrumbs_190 rfl rfl ?_
                refine xr_getR B xg_X11_51 xh_49 rfl dX11_findCrumbs_191 ?_
                refine xr_iload_n B dX11_findCrumbs_194 rfl rfl ?_
                refine xq_iald B xh_62 dX11_findCrumbs_195 hf (fun v56 hf => ?_)
                refine xr_ishl B dX11_findCrumbs_196 ?_
                refine xr_iconst B (v := (-1)) dX11_findCrumbs_197 (by decide) ?_
                refine xr_ixor B dX11_findCrumbs_198 ?_
                refine xr_forget B (lv2 := [some (.ref (ad 49)), some (.int t8.1), some (.int t8.2.1), none, none, none]) ⟨rfl, ⟨rfl, ⟨rfl, trivial⟩⟩⟩ ?_
                exact hj30 (((1 : Int32) <<< (v56 &&& 31)) ^^^ (-1)) hf
          · refine xr_aload_n B dX11_findCrumbs_124 rfl rfl ?_
            refine xr_getR B xg_X11_51 xh_49 rfl dX11_findCrumbs_125 ?_
            refine xr_iload_n B dX11_findCrumbs_128 rfl rfl ?_
            refine xq_iald B xh_62 dX11_findCrumbs_129 hf (fun v57 hf => ?_)
            refine xr_iconst B (v := (-1)) dX11_findCrumbs_130 (by decide) ?_
            refine xr_meet (fun (w58 : Int32) => J 139 [some (.ref (ad 49)), some (.int t8.1), some (.int t8.2.1), some (.int t8.2.2.1), none, none] [.int w58] t8.2.2.2) hf (fun w58 hf => ?_) (fun j59 hj59 hf => ?_)
            · refine xr_istore B (lv2 := [some (.ref (ad 49)), some (.int t8.1), some (.int t8.2.1), some (.int t8.2.2.1), some (.int w58), none]) dX11_findCrumbs_139 (by decide) rfl ?_
              refine xr_aload_n B dX11_findCrumbs_141 rfl rfl ?_
              refine xr_getR B xg_X11_51 xh_49 rfl dX11_findCrumbs_142 ?_
              refine xr_iload_n B dX11_findCrumbs_145 rfl rfl ?_
              refine xr_iload B dX11_findCrumbs_146 rfl ?_
              refine xr_meet (fun (w60 : Int32) => J 157 [some (.ref (ad 49)), some (.int t8.1), some (.int t8.2.1), some (.int t8.2.2.1), some (.int w58), none] [.int w60, .int t8.2.1, .ref (ad 62)] t8.2.2.2) hf (fun w60 hf => ?_) (fun j61 hj61 hf => ?_)
              · refine xq_iast B xh_62 dX11_findCrumbs_157 hf (fun s62 hf => ?_)
                refine xr_iload_n B dX11_findCrumbs_158 rfl rfl ?_
                refine xr_iload B dX11_findCrumbs_159 rfl ?_
                refine xr_meet (fun (w63 : Int32) => J 169 [some (.ref (ad 49)), some (.int t8.1), none, some (.int t8.2.2.1), none, none] [.int w63, .int t8.2.1] s62) hf (fun w63 hf => ?_) (fun j64 hj64 hf => ?_)
                · refine xr_iadd B dX11_findCrumbs_169 ?_
                  refine xr_top _ hf (fun v65 hf => ?_)
                  refine xr_istore_n B (lv2 := [some (.ref (ad 49)), some (.int t8.1), some (.int v65), some (.int t8.2.2.1), none, none]) dX11_findCrumbs_170 rfl (by decide) rfl ?_
                  refine xr_goto B (tgt := 38) dX11_findCrumbs_171 (by decide) ?_
                  exact hrec9 t8.1 v65 t8.2.2.1 s62 hf
                · refine xr_if_eq B (tgt := 168) dX11_findCrumbs_161 (by decide) hf (fun _ hf => ?_) (fun _ hf => ?_)
                  · refine xr_iconst B (v := (-1)) dX11_findCrumbs_168 (by decide) ?_
                    refine xr_forget B (lv2 := [some (.ref (ad 49)), some (.int t8.1), none, some (.int t8.2.2.1), none, none]) ⟨rfl, ⟨rfl, ⟨rfl, trivial⟩⟩⟩ ?_
                    exact hj64 (-1) hf
                  · refine xr_iconst B (v := 1) dX11_findCrumbs_164 (by decide) ?_
                    refine xr_goto B (tgt := 169) dX11_findCrumbs_165 (by decide) ?_
                    refine xr_forget B (lv2 := [some (.ref (ad 49)), some (.int t8.1), none, some (.int t8.2.2.1), none, none]) ⟨rfl, ⟨rfl, ⟨rfl, trivial⟩⟩⟩ ?_
                    exact hj64 1 hf
              · refine xr_if_eq B (tgt := 156) dX11_findCrumbs_148 (by decide) hf (fun _ hf => ?_) (fun _ hf => ?_)
                · refine xr_iconst B (v := (-1)) dX11_findCrumbs_156 (by decide) ?_
                  exact hj61 (-1) hf
                · refine xr_bipush B (v := (-2)) dX11_findCrumbs_151 (by decide) ?_
                  refine xr_goto B (tgt := 157) dX11_findCrumbs_153 (by decide) ?_
                  exact hj61 (-2) hf
            · refine xr_ic_ne B (tgt := 138) dX11_findCrumbs_131 (by decide) hf (fun _ hf => ?_) (fun _ hf => ?_)
              · refine xr_iconst B (v := 1) dX11_findCrumbs_134 (by decide) ?_
                refine xr_goto B (tgt := 139) dX11_findCrumbs_135 (by decide) ?_
                exact hj59 1 hf
              · refine xr_iconst B (v := 0) dX11_findCrumbs_138 (by decide) ?_
                exact hj59 0 hf
  · have hrec2 : ∀ (b1 : Int32) (b2 : xr_S), rec2 (b1, b2) = some q → J 9 [some (.ref (ad 49)), some (.int 0), some (.int 0), some (.int 0), some (.int b1), none] [] b2 := fun b1 b2 h => hrec2 (b1, b2) h
    unfold xf_X11_findCrumbs_L9 at hf
    refine xr_iload B dX11_findCrumbs_9 rfl ?_
    refine xr_bipush B (v := 7) dX11_findCrumbs_11 (by decide) ?_
    refine xr_ic_ge B (tgt := 38) dX11_findCrumbs_13 (by decide) hf (fun _ hf => ?_) (fun _ hf => ?_)
    · refine xr_forget B (lv2 := [some (.ref (ad 49)), some (.int 0), some (.int 0), some (.int 0), none, none]) ⟨rfl, ⟨rfl, ⟨rfl, ⟨rfl, trivial⟩⟩⟩⟩ ?_
      exact hK4 t1.2 hf
    · refine xr_aload_n B dX11_findCrumbs_16 rfl rfl ?_
      refine xr_getR B xg_X11_51 xh_49 rfl dX11_findCrumbs_17 ?_
      refine xr_iload B dX11_findCrumbs_20 rfl ?_
      refine xr_iconst B (v := (-1)) dX11_findCrumbs_22 (by decide) ?_
      refine xq_iast B xh_62 dX11_findCrumbs_23 hf (fun s5 hf => ?_)
      refine xr_aload_n B dX11_findCrumbs_24 rfl rfl ?_
      refine xr_getR B xg_X11_54 xh_49 rfl dX11_findCrumbs_25 ?_
      refine xr_iload B dX11_findCrumbs_28 rfl ?_
      refine xr_iconst B (v := (-1)) dX11_findCrumbs_30 (by decide) ?_
      refine xq_iast B xh_63 dX11_findCrumbs_31 hf (fun s6 hf => ?_)
      refine xr_iinc B (v := (t1.1 + 1)) (lv2 := [some (.ref (ad 49)), some (.int 0), some (.int 0), some (.int 0), some (.int (t1.1 + 1)), none]) dX11_findCrumbs_32 rfl (congrArg (t1.1 + ·) (by decide : Int32.ofInt (1) = 1)) (by decide) rfl ?_
      refine xr_goto B (tgt := 9) dX11_findCrumbs_35 (by decide) ?_
      exact hrec2 (t1.1 + 1) s6 hf

noncomputable def xf_X11_crumbs (σ : xr_S) (a1 : Int32) : Option (Int32 × xr_S) := xr_jn (fun (w1 : Unit) => (xf_X11_findCrumbs σ).bind (fun p3 => if a1 = (-1) then (some (p3.1, p3.2)) else (if p3.1 = 0 then (some ((-1), p3.2)) else ((xf_X11_isFresh p3.2 a1).bind (fun v4 => if v4 = 0 then (xr_ld p3.2 63 7 a1 (fun v5 => some (v5, p3.2))) else (some ((-1), p3.2))))))) (fun j2 => if a1 = (-1) then (j2 ()) else ((xf_X11_isLoaf σ a1).bind (fun v6 => if v6 = 0 then (some ((-1000000001), σ)) else (j2 ()))))
set_option maxRecDepth 100000 in
set_option maxHeartbeats 4000000 in
theorem xc_X11_crumbs (l : Launch) (D : va_G) (ad : Nat → Nat) (ca : Nat → ClassId) (σ : xr_S) (a1 : Int32) (q : (Int32 × xr_S)) (hf : xf_X11_crumbs σ a1 = some q) : xr_M l D ad ca yX11_crumbs cX11_crumbs 3 (some .int) 2 48 [.ref (ad 49), .int a1] σ (some (.int q.1)) q.2 := by
  refine xr_openI [some (.ref (ad 49)), some (.int a1), none] xm_X11_crumbs (Nat.le_of_ble_eq_true rfl) rfl (fun J B RR => ?_)
  unfold xf_X11_crumbs at hf
  refine xr_iload_n B dX11_crumbs_0 rfl rfl ?_
  refine xr_iconst B (v := (-1)) dX11_crumbs_1 (by decide) ?_
  refine xr_meet (fun (w1 : Unit) => J 16 [some (.ref (ad 49)), some (.int a1), none] [] σ) hf (fun w1 hf => ?_) (fun j2 hj2 hf => ?_)
  · refine xr_aload_n B dX11_crumbs_16 rfl rfl ?_
    refine xr_cVI B (rest := []) [] xm_X11_findCrumbs xv_X11_273 (fun q hq => xc_X11_findCrumbs l D ad ca σ q hq) xh_49 rfl rfl (by decide) rfl (Nat.le_of_ble_eq_true rfl) dX11_crumbs_17 hf (fun p3 hf => ?_)
    refine xr_istore_n B (lv2 := [some (.ref (ad 49)), some (.int a1), some (.int p3.1)]) dX11_crumbs_20 rfl (by decide) rfl ?_
    refine xr_iload_n B dX11_crumbs_21 rfl rfl ?_
    refine xr_iconst B (v := (-1)) dX11_crumbs_22 (by decide) ?_
    refine xr_ic_ne B (tgt := 30) dX11_crumbs_23 (by decide) hf (fun _ hf => ?_) (fun _ hf => ?_)
    · refine xr_iload_n B dX11_crumbs_26 rfl rfl ?_
      refine xr_goto B (tgt := 52) dX11_crumbs_27 (by decide) ?_
      obtain rfl := Option.some.inj hf
      exact RR _ _ _ dX11_crumbs_52 rfl
    · refine xr_iload_n B dX11_crumbs_30 rfl rfl ?_
      refine xr_if_eq B (tgt := 42) dX11_crumbs_31 (by decide) hf (fun _ hf => ?_) (fun _ hf => ?_)
      · refine xr_iconst B (v := (-1)) dX11_crumbs_42 (by decide) ?_
        refine xr_goto B (tgt := 52) dX11_crumbs_43 (by decide) ?_
        obtain rfl := Option.some.inj hf
        exact RR _ _ _ dX11_crumbs_52 rfl
      · refine xr_aload_n B dX11_crumbs_34 rfl rfl ?_
        refine xr_iload_n B dX11_crumbs_35 rfl rfl ?_
        refine xr_cVi B (rest := []) [.int a1] xm_X11_isFresh xv_X11_209 (fun q hq => xc_X11_isFresh l D ad ca p3.2 a1 q hq) xh_49 rfl rfl (by decide) rfl (Nat.le_of_ble_eq_true rfl) dX11_crumbs_36 hf (fun v4 hf => ?_)
        refine xr_if_eq B (tgt := 46) dX11_crumbs_39 (by decide) hf (fun _ hf => ?_) (fun _ hf => ?_)
        · refine xr_aload_n B dX11_crumbs_46 rfl rfl ?_
          refine xr_getR B xg_X11_54 xh_49 rfl dX11_crumbs_47 ?_
          refine xr_iload_n B dX11_crumbs_50 rfl rfl ?_
          refine xq_iald B xh_63 dX11_crumbs_51 hf (fun v5 hf => ?_)
          obtain rfl := Option.some.inj hf
          exact RR _ _ _ dX11_crumbs_52 rfl
        · refine xr_iconst B (v := (-1)) dX11_crumbs_42 (by decide) ?_
          refine xr_goto B (tgt := 52) dX11_crumbs_43 (by decide) ?_
          obtain rfl := Option.some.inj hf
          exact RR _ _ _ dX11_crumbs_52 rfl
  · refine xr_ic_eq B (tgt := 16) dX11_crumbs_2 (by decide) hf (fun _ hf => ?_) (fun _ hf => ?_)
    · exact hj2 () hf
    · refine xr_aload_n B dX11_crumbs_5 rfl rfl ?_
      refine xr_iload_n B dX11_crumbs_6 rfl rfl ?_
      refine xr_cVi B (rest := []) [.int a1] xm_X11_isLoaf xv_X11_200 (fun q hq => xc_X11_isLoaf l D ad ca σ a1 q hq) xh_49 rfl rfl (by decide) rfl (Nat.le_of_ble_eq_true rfl) dX11_crumbs_7 hf (fun v6 hf => ?_)
      refine xr_if_ne B (tgt := 16) dX11_crumbs_10 (by decide) hf (fun _ hf => ?_) (fun _ hf => ?_)
      · refine xr_ldc B xk_X11_192 dX11_crumbs_13 ?_
        obtain rfl := Option.some.inj hf
        exact RR _ _ _ dX11_crumbs_15 rfl
      · exact hj2 () hf

noncomputable def xf_X11_hire_L35 (σ : xr_S) (a1 : Int32) (K6 : (Int32 × Int32) → Option Int32) (t3 : (Int32 × Int32 × Int32 × Int32)) (rec4 : (Int32 × Int32 × Int32 × Int32) → Option Int32) : Option Int32 := if (σ.1 49 5) ≤ t3.2.2.2 then (K6 (t3.1, t3.2.2.1)) else ((xf_X11_isFresh σ t3.2.2.2).bind (fun v7 => xr_jn (fun (w8 : Int32) => xr_jn (fun (w10 : Int32) => xr_jn (fun (w12 : Int32) => xr_jn (fun (w14 : Int32) => rec4 (w12, w14, w10, (t3.2.2.2 + 1))) (fun j15 => if w8 ≤ t3.2.1 then (j15 t3.2.1) else (j15 w8))) (fun j13 => if w8 ≤ t3.2.1 then (j13 t3.1) else (j13 t3.2.2.2))) (fun j11 => if w8 ≤ t3.2.1 then (if w8 ≤ t3.2.2.1 then (j11 t3.2.2.1) else (j11 w8)) else (j11 t3.2.1))) (fun j9 => if v7 = 0 then (j9 0) else (xr_ld σ 52 7 t3.2.2.2 (fun v17 => if v17 = a1 then (j9 0) else ((xf_X11_worthOf σ t3.2.2.2 a1).bind (fun v18 => j9 v18)))))))
noncomputable def xf_X11_hire (σ : xr_S) (a1 : Int32) (a2 : Int32) : Option Int32 := (xf_X11_isSleeper σ a1).bind (fun v1 => if v1 = 0 then (some (-1000000001)) else ((xf_X11_in σ (Int32.toInt64 a2) 0 1).bind (fun v2 => if v2 = 0 then (some (-1000000002)) else (xr_lw (xf_X11_hire_L35 σ a1 (fun (e5 : (Int32 × Int32)) => if e5.1 = (-1) then (some e5.1) else (if a2 = 0 then (some e5.1) else (some e5.2)))) ((-1), 0, 0, 0)))))
set_option maxRecDepth 100000 in
set_option maxHeartbeats 4000000 in
theorem xc_X11_hire (l : Launch) (D : va_G) (ad : Nat → Nat) (ca : Nat → ClassId) (σ : xr_S) (a1 : Int32) (a2 : Int32) (q : Int32) (hf : xf_X11_hire σ a1 a2 = some q) : xr_M l D ad ca yX11_hire cX11_hire 8 (some .int) 3 69 [.ref (ad 49), .int a1, .int a2] σ (some (.int q)) σ := by
  refine xr_openI [some (.ref (ad 49)), some (.int a1), some (.int a2), none, none, none, none, none] xm_X11_hire (Nat.le_of_ble_eq_true rfl) rfl (fun J B RR => ?_)
  unfold xf_X11_hire at hf
  refine xr_aload_n B dX11_hire_0 rfl rfl ?_
  refine xr_iload_n B dX11_hire_1 rfl rfl ?_
  refine xr_cVi B (rest := []) [.int a1] xm_X11_isSleeper xv_X11_186 (fun q hq => xc_X11_isSleeper l D ad ca σ a1 q hq) xh_49 rfl rfl (by decide) rfl (Nat.le_of_ble_eq_true rfl) dX11_hire_2 hf (fun v1 hf => ?_)
  refine xr_if_ne B (tgt := 11) dX11_hire_5 (by decide) hf (fun _ hf => ?_) (fun _ hf => ?_)
  · refine xr_ldc B xk_X11_192 dX11_hire_8 ?_
    obtain rfl := Option.some.inj hf
    exact RR _ _ _ dX11_hire_10 rfl
  · refine xr_iload_n B dX11_hire_11 rfl rfl ?_
    refine xr_i2l B dX11_hire_12 ?_
    refine xr_lconst B (v := 0) dX11_hire_13 (by decide) ?_
    refine xr_lconst B (v := 1) dX11_hire_14 (by decide) ?_
    refine xr_cSi B (rest := []) [.long (Int32.toInt64 a2), .long 0, .long 1] xm_X11_in xs_X11_76 (fun q hq => xc_X11_in l D ad ca σ (Int32.toInt64 a2) 0 1 q hq) rfl (by decide) rfl (Nat.le_of_ble_eq_true rfl) dX11_hire_15 hf (fun v2 hf => ?_)
    refine xr_if_ne B (tgt := 24) dX11_hire_18 (by decide) hf (fun _ hf => ?_) (fun _ hf => ?_)
    · refine xr_ldc B xk_X11_88 dX11_hire_21 ?_
      obtain rfl := Option.some.inj hf
      exact RR _ _ _ dX11_hire_23 rfl
    · refine xr_iconst B (v := (-1)) dX11_hire_24 (by decide) ?_
      refine xr_istore_n B (lv2 := [some (.ref (ad 49)), some (.int a1), some (.int a2), some (.int (-1)), none, none, none, none]) dX11_hire_25 rfl (by decide) rfl ?_
      refine xr_iconst B (v := 0) dX11_hire_26 (by decide) ?_
      refine xr_istore B (lv2 := [some (.ref (ad 49)), some (.int a1), some (.int a2), some (.int (-1)), some (.int 0), none, none, none]) dX11_hire_27 (by decide) rfl ?_
      refine xr_iconst B (v := 0) dX11_hire_29 (by decide) ?_
      refine xr_istore B (lv2 := [some (.ref (ad 49)), some (.int a1), some (.int a2), some (.int (-1)), some (.int 0), some (.int 0), none, none]) dX11_hire_30 (by decide) rfl ?_
      refine xr_iconst B (v := 0) dX11_hire_32 (by decide) ?_
      refine xr_istore B (lv2 := [some (.ref (ad 49)), some (.int a1), some (.int a2), some (.int (-1)), some (.int 0), some (.int 0), some (.int 0), none]) dX11_hire_33 (by decide) rfl ?_
      refine xq_loop (fun (t3 : (Int32 × Int32 × Int32 × Int32)) => J 35 [some (.ref (ad 49)), some (.int a1), some (.int a2), some (.int t3.1), some (.int t3.2.1), some (.int t3.2.2.1), some (.int t3.2.2.2), none] [] σ) (fun (e5 : (Int32 × Int32)) => J 141 [none, none, some (.int a2), some (.int e5.1), none, some (.int e5.2), none, none] [] σ) hf (fun e5 hf => ?_) (fun K6 hK6 t3 rec4 hrec4 hf => ?_)
      · refine xr_iload_n B dX11_hire_141 rfl rfl ?_
        refine xr_iconst B (v := (-1)) dX11_hire_142 (by decide) ?_
        refine xr_ic_eq B (tgt := 150) dX11_hire_143 (by decide) hf (fun _ hf => ?_) (fun _ hf => ?_)
        · refine xr_iload_n B dX11_hire_150 rfl rfl ?_
          refine xr_goto B (tgt := 156) dX11_hire_151 (by decide) ?_
          obtain rfl := Option.some.inj hf
          exact RR _ _ _ dX11_hire_156 rfl
        · refine xr_iload_n B dX11_hire_146 rfl rfl ?_
          refine xr_if_ne B (tgt := 154) dX11_hire_147 (by decide) hf (fun _ hf => ?_) (fun _ hf => ?_)
          · refine xr_iload_n B dX11_hire_150 rfl rfl ?_
            refine xr_goto B (tgt := 156) dX11_hire_151 (by decide) ?_
            obtain rfl := Option.some.inj hf
            exact RR _ _ _ dX11_hire_156 rfl
          · refine xr_iload B dX11_hire_154 rfl ?_
            obtain rfl := Option.some.inj hf
            exact RR _ _ _ dX11_hire_156 rfl
      · have hrec4 : ∀ (b1 : Int32) (b2 : Int32) (b3 : Int32) (b4 : Int32), rec4 (b1, b2, b3, b4) = some q → J 35 [some (.ref (ad 49)), some (.int a1), some (.int a2), some (.int b1), some (.int b2), some (.int b3), some (.int b4), none] [] σ := fun b1 b2 b3 b4 h => hrec4 (b1, b2, b3, b4) h
        have hK6 : ∀ (b1 : Int32) (b2 : Int32), K6 (b1, b2) = some q → J 141 [none, none, some (.int a2), some (.int b1), none, some (.int b2), none, none] [] σ := fun b1 b2 h => hK6 (b1, b2) h
        unfold xf_X11_hire_L35 at hf
        refine xr_iload B dX11_hire_35 rfl ?_
        refine xr_aload_n B dX11_hire_37 rfl rfl ?_
        refine xr_getI B xg_X11_83 xh_49 rfl dX11_hire_38 ?_
        refine xr_ic_ge B (tgt := 141) dX11_hire_41 (by decide) hf (fun _ hf => ?_) (fun _ hf => ?_)
        · refine xr_forget B (lv2 := [none, none, some (.int a2), some (.int t3.1), none, some (.int t3.2.2.1), none, none]) ⟨rfl, ⟨rfl, ⟨rfl, trivial⟩⟩⟩ ?_
          exact hK6 t3.1 t3.2.2.1 hf
        · refine xr_aload_n B dX11_hire_44 rfl rfl ?_
          refine xr_iload B dX11_hire_45 rfl ?_
          refine xr_cVi B (rest := []) [.int t3.2.2.2] xm_X11_isFresh xv_X11_209 (fun q hq => xc_X11_isFresh l D ad ca σ t3.2.2.2 q hq) xh_49 rfl rfl (by decide) rfl (Nat.le_of_ble_eq_true rfl) dX11_hire_47 hf (fun v7 hf => ?_)
          refine xr_meet (fun (w8 : Int32) => J 75 [some (.ref (ad 49)), some (.int a1), some (.int a2), some (.int t3.1), some (.int t3.2.1), some (.int t3.2.2.1), some (.int t3.2.2.2), none] [.int w8] σ) hf (fun w8 hf => ?_) (fun j9 hj9 hf => ?_)
          · refine xr_istore B (lv2 := [some (.ref (ad 49)), some (.int a1), some (.int a2), some (.int t3.1), some (.int t3.2.1), some (.int t3.2.2.1), some (.int t3.2.2.2), some (.int w8)]) dX11_hire_75 (by decide) rfl ?_
            refine xr_iload B dX11_hire_77 rfl ?_
            refine xr_iload B dX11_hire_79 rfl ?_
            refine xr_meet (fun (w10 : Int32) => J 103 [some (.ref (ad 49)), some (.int a1), some (.int a2), some (.int t3.1), some (.int t3.2.1), none, some (.int t3.2.2.2), some (.int w8)] [.int w10] σ) hf (fun w10 hf => ?_) (fun j11 hj11 hf => ?_)
            · refine xr_istore B (lv2 := [some (.ref (ad 49)), some (.int a1), some (.int a2), some (.int t3.1), some (.int t3.2.1), some (.int w10), some (.int t3.2.2.2), some (.int w8)]) dX11_hire_103 (by decide) rfl ?_
              refine xr_iload B dX11_hire_105 rfl ?_
              refine xr_iload B dX11_hire_107 rfl ?_
              refine xr_meet (fun (w12 : Int32) => J 118 [some (.ref (ad 49)), some (.int a1), some (.int a2), none, some (.int t3.2.1), some (.int w10), some (.int t3.2.2.2), some (.int w8)] [.int w12] σ) hf (fun w12 hf => ?_) (fun j13 hj13 hf => ?_)
              · refine xr_istore_n B (lv2 := [some (.ref (ad 49)), some (.int a1), some (.int a2), some (.int w12), some (.int t3.2.1), some (.int w10), some (.int t3.2.2.2), some (.int w8)]) dX11_hire_118 rfl (by decide) rfl ?_
                refine xr_iload B dX11_hire_119 rfl ?_
                refine xr_iload B dX11_hire_121 rfl ?_
                refine xr_meet (fun (w14 : Int32) => J 133 [some (.ref (ad 49)), some (.int a1), some (.int a2), some (.int w12), none, some (.int w10), some (.int t3.2.2.2), none] [.int w14] σ) hf (fun w14 hf => ?_) (fun j15 hj15 hf => ?_)
                · refine xr_istore B (lv2 := [some (.ref (ad 49)), some (.int a1), some (.int a2), some (.int w12), some (.int w14), some (.int w10), some (.int t3.2.2.2), none]) dX11_hire_133 (by decide) rfl ?_
                  refine xr_iinc B (v := (t3.2.2.2 + 1)) (lv2 := [some (.ref (ad 49)), some (.int a1), some (.int a2), some (.int w12), some (.int w14), some (.int w10), some (.int (t3.2.2.2 + 1)), none]) dX11_hire_135 rfl (congrArg (t3.2.2.2 + ·) (by decide : Int32.ofInt (1) = 1)) (by decide) rfl ?_
                  refine xr_goto B (tgt := 35) dX11_hire_138 (by decide) ?_
                  exact hrec4 w12 w14 w10 (t3.2.2.2 + 1) hf
                · refine xr_ic_le B (tgt := 131) dX11_hire_123 (by decide) hf (fun _ hf => ?_) (fun _ hf => ?_)
                  · refine xr_iload B dX11_hire_131 rfl ?_
                    refine xr_forget B (lv2 := [some (.ref (ad 49)), some (.int a1), some (.int a2), some (.int w12), none, some (.int w10), some (.int t3.2.2.2), none]) ⟨rfl, ⟨rfl, ⟨rfl, ⟨rfl, ⟨rfl, ⟨rfl, trivial⟩⟩⟩⟩⟩⟩ ?_
                    exact hj15 t3.2.1 hf
                  · refine xr_iload B dX11_hire_126 rfl ?_
                    refine xr_goto B (tgt := 133) dX11_hire_128 (by decide) ?_
                    refine xr_forget B (lv2 := [some (.ref (ad 49)), some (.int a1), some (.int a2), some (.int w12), none, some (.int w10), some (.int t3.2.2.2), none]) ⟨rfl, ⟨rfl, ⟨rfl, ⟨rfl, ⟨rfl, ⟨rfl, trivial⟩⟩⟩⟩⟩⟩ ?_
                    exact hj15 w8 hf
              · refine xr_ic_le B (tgt := 117) dX11_hire_109 (by decide) hf (fun _ hf => ?_) (fun _ hf => ?_)
                · refine xr_iload_n B dX11_hire_117 rfl rfl ?_
                  refine xr_forget B (lv2 := [some (.ref (ad 49)), some (.int a1), some (.int a2), none, some (.int t3.2.1), some (.int w10), some (.int t3.2.2.2), some (.int w8)]) ⟨rfl, ⟨rfl, ⟨rfl, ⟨rfl, ⟨rfl, ⟨rfl, ⟨rfl, trivial⟩⟩⟩⟩⟩⟩⟩ ?_
                  exact hj13 t3.1 hf
                · refine xr_iload B dX11_hire_112 rfl ?_
                  refine xr_goto B (tgt := 118) dX11_hire_114 (by decide) ?_
                  refine xr_forget B (lv2 := [some (.ref (ad 49)), some (.int a1), some (.int a2), none, some (.int t3.2.1), some (.int w10), some (.int t3.2.2.2), some (.int w8)]) ⟨rfl, ⟨rfl, ⟨rfl, ⟨rfl, ⟨rfl, ⟨rfl, ⟨rfl, trivial⟩⟩⟩⟩⟩⟩⟩ ?_
                  exact hj13 t3.2.2.2 hf
            · refine xr_ic_le B (tgt := 89) dX11_hire_81 (by decide) hf (fun _ hf => ?_) (fun _ hf => ?_)
              · refine xr_iload B dX11_hire_89 rfl ?_
                refine xr_iload B dX11_hire_91 rfl ?_
                refine xr_ic_le B (tgt := 101) dX11_hire_93 (by decide) hf (fun _ hf => ?_) (fun _ hf => ?_)
                · refine xr_iload B dX11_hire_101 rfl ?_
                  refine xr_forget B (lv2 := [some (.ref (ad 49)), some (.int a1), some (.int a2), some (.int t3.1), some (.int t3.2.1), none, some (.int t3.2.2.2), some (.int w8)]) ⟨rfl, ⟨rfl, ⟨rfl, ⟨rfl, ⟨rfl, ⟨rfl, ⟨rfl, trivial⟩⟩⟩⟩⟩⟩⟩ ?_
                  exact hj11 t3.2.2.1 hf
                · refine xr_iload B dX11_hire_96 rfl ?_
                  refine xr_goto B (tgt := 103) dX11_hire_98 (by decide) ?_
                  refine xr_forget B (lv2 := [some (.ref (ad 49)), some (.int a1), some (.int a2), some (.int t3.1), some (.int t3.2.1), none, some (.int t3.2.2.2), some (.int w8)]) ⟨rfl, ⟨rfl, ⟨rfl, ⟨rfl, ⟨rfl, ⟨rfl, ⟨rfl, trivial⟩⟩⟩⟩⟩⟩⟩ ?_
                  exact hj11 w8 hf
              · refine xr_iload B dX11_hire_84 rfl ?_
                refine xr_goto B (tgt := 103) dX11_hire_86 (by decide) ?_
                refine xr_forget B (lv2 := [some (.ref (ad 49)), some (.int a1), some (.int a2), some (.int t3.1), some (.int t3.2.1), none, some (.int t3.2.2.2), some (.int w8)]) ⟨rfl, ⟨rfl, ⟨rfl, ⟨rfl, ⟨rfl, ⟨rfl, ⟨rfl, trivial⟩⟩⟩⟩⟩⟩⟩ ?_
                exact hj11 t3.2.1 hf
          · refine xr_if_eq B (tgt := 74) dX11_hire_50 (by decide) hf (fun _ hf => ?_) (fun _ hf => ?_)
            · refine xr_iconst B (v := 0) dX11_hire_74 (by decide) ?_
              exact hj9 0 hf
            · refine xr_aload_n B dX11_hire_53 rfl rfl ?_
              refine xr_getR B xg_X11_17 xh_49 rfl dX11_hire_54 ?_
              refine xr_iload B dX11_hire_57 rfl ?_
              refine xq_iald B xh_52 dX11_hire_59 hf (fun v17 hf => ?_)
              refine xr_iload_n B dX11_hire_60 rfl rfl ?_
              refine xr_ic_eq B (tgt := 74) dX11_hire_61 (by decide) hf (fun _ hf => ?_) (fun _ hf => ?_)
              · refine xr_iconst B (v := 0) dX11_hire_74 (by decide) ?_
                exact hj9 0 hf
              · refine xr_aload_n B dX11_hire_64 rfl rfl ?_
                refine xr_iload B dX11_hire_65 rfl ?_
                refine xr_iload_n B dX11_hire_67 rfl rfl ?_
                refine xr_cVi B (rest := []) [.int t3.2.2.2, .int a1] xm_X11_worthOf xv_X11_206 (fun q hq => xc_X11_worthOf l D ad ca σ t3.2.2.2 a1 q hq) xh_49 rfl rfl (by decide) rfl (Nat.le_of_ble_eq_true rfl) dX11_hire_68 hf (fun v18 hf => ?_)
                refine xr_goto B (tgt := 75) dX11_hire_71 (by decide) ?_
                exact hj9 v18 hf

noncomputable def xf_X11_bread_L17  (K5 : xr_S → Option (Int32 × xr_S)) (t2 : (Int32 × xr_S)) (rec3 : (Int32 × xr_S) → Option (Int32 × xr_S)) : Option (Int32 × xr_S) := if 8 ≤ t2.1 then (K5 t2.2) else (xr_jn (fun (w6 : Int64) => xr_sl t2.2 8 t2.1 w6 (fun s8 => rec3 ((t2.1 + 1), s8))) (fun j7 => if t2.1 = 0 then (j7 1000000) else (j7 0)))
noncomputable def xf_X11_bread_L83 (t10 : (Int32 × xr_S)) (v14 : Int32) (K22 : xr_S → Option (Int32 × xr_S)) (t19 : (Int32 × xr_S)) (rec20 : (Int32 × xr_S) → Option (Int32 × xr_S)) : Option (Int32 × xr_S) := if t19.1 < 0 then (K22 t19.2) else (xr_ll t19.2 8 t19.1 (fun v23 => xr_ld t19.2 53 7 t10.1 (fun v24 => (xf_X11_weightOf t19.2 0 v14 v24).bind (fun v25 => (xf_X11_allOf t19.2 0 v14).bind (fun v26 => xr_nl (Int32.toInt64 v26) (xr_v (((v23 * (Int32.toInt64 v25)) / (Int32.toInt64 v26))) (fun v27 => xr_ll t19.2 8 t19.1 (fun v28 => xr_sl t19.2 8 t19.1 (v28 - v27) (fun s29 => xr_ll s29 8 (t19.1 + 1) (fun v30 => xr_sl s29 8 (t19.1 + 1) (v30 + v27) (fun s31 => rec20 ((t19.1 + (-1)), s31))))))))))))
noncomputable def xf_X11_bread_L48  (K13 : xr_S → Option (Int32 × xr_S)) (t10 : (Int32 × xr_S)) (rec11 : (Int32 × xr_S) → Option (Int32 × xr_S)) : Option (Int32 × xr_S) := if (t10.2.1 49 5) ≤ t10.1 then (K13 t10.2) else (xr_ld t10.2 50 220 (30 + t10.1) (fun v14 => xr_jn (fun (w15 : xr_S) => rec11 ((t10.1 + 1), w15)) (fun j16 => if v14 = (-1) then (j16 t10.2) else ((xf_X11_isAwake t10.2 v14).bind (fun v18 => if v18 = 0 then (xr_lw (xf_X11_bread_L83 t10 v14 (fun (e21 : xr_S) => j16 e21)) (6, t10.2)) else (j16 t10.2))))))
noncomputable def xf_X11_bread_L162 (e12 : xr_S) (K36 : Int64 → Option (Int32 × xr_S)) (t33 : (Int64 × Int32)) (rec34 : (Int64 × Int32) → Option (Int32 × xr_S)) : Option (Int32 × xr_S) := if 8 ≤ t33.2 then (K36 t33.1) else (xr_ll e12 8 t33.2 (fun v37 => xr_v ((t33.1 + v37)) (fun v38 => rec34 (v38, (t33.2 + 1)))))
noncomputable def xf_X11_bread (σ : xr_S) (a1 : Int32) : Option (Int32 × xr_S) := (xf_X11_in σ (Int32.toInt64 a1) 1 7).bind (fun v1 => if v1 = 0 then (some ((-1000000002), σ)) else (xr_lw (xf_X11_bread_L17 (fun (e4 : xr_S) => xr_lw (xf_X11_bread_L48 (fun (e12 : xr_S) => xr_lw (xf_X11_bread_L162 e12 (fun (e35 : Int64) => some ((Int64.toInt32 e35), e12))) (0, a1))) (0, e4))) (0, σ)))
set_option maxRecDepth 100000 in
set_option maxHeartbeats 4000000 in
theorem xc_X11_bread (l : Launch) (D : va_G) (ad : Nat → Nat) (ca : Nat → ClassId) (σ : xr_S) (a1 : Int32) (q : (Int32 × xr_S)) (hf : xf_X11_bread σ a1 = some q) : xr_M l D ad ca yX11_bread cX11_bread 7 (some .int) 2 47 [.ref (ad 49), .int a1] σ (some (.int q.1)) q.2 := by
  refine xr_openI [some (.ref (ad 49)), some (.int a1), none, none, none, none, none] xm_X11_bread (Nat.le_of_ble_eq_true rfl) rfl (fun J B RR => ?_)
  unfold xf_X11_bread at hf
  refine xr_iload_n B dX11_bread_0 rfl rfl ?_
  refine xr_i2l B dX11_bread_1 ?_
  refine xr_lconst B (v := 1) dX11_bread_2 (by decide) ?_
  refine xr_ldc2 B xl_X11_276 dX11_bread_3 ?_
  refine xr_cSi B (rest := []) [.long (Int32.toInt64 a1), .long 1, .long 7] xm_X11_in xs_X11_76 (fun q hq => xc_X11_in l D ad ca σ (Int32.toInt64 a1) 1 7 q hq) rfl (by decide) rfl (Nat.le_of_ble_eq_true rfl) dX11_bread_6 hf (fun v1 hf => ?_)
  refine xr_if_ne B (tgt := 15) dX11_bread_9 (by decide) hf (fun _ hf => ?_) (fun _ hf => ?_)
  · refine xr_ldc B xk_X11_88 dX11_bread_12 ?_
    obtain rfl := Option.some.inj hf
    exact RR _ _ _ dX11_bread_14 rfl
  · refine xr_iconst B (v := 0) dX11_bread_15 (by decide) ?_
    refine xr_istore_n B (lv2 := [some (.ref (ad 49)), some (.int a1), some (.int 0), none, none, none, none]) dX11_bread_16 rfl (by decide) rfl ?_
    refine xq_loop (fun (t2 : (Int32 × xr_S)) => J 17 [some (.ref (ad 49)), some (.int a1), some (.int t2.1), none, none, none, none] [] t2.2) (fun (e4 : xr_S) => J 46 [some (.ref (ad 49)), some (.int a1), none, none, none, none, none] [] e4) hf (fun e4 hf => ?_) (fun K5 hK5 t2 rec3 hrec3 hf => ?_)
    · refine xr_iconst B (v := 0) dX11_bread_46 (by decide) ?_
      refine xr_istore_n B (lv2 := [some (.ref (ad 49)), some (.int a1), some (.int 0), none, none, none, none]) dX11_bread_47 rfl (by decide) rfl ?_
      refine xq_loop (fun (t10 : (Int32 × xr_S)) => J 48 [some (.ref (ad 49)), some (.int a1), some (.int t10.1), none, none, none, none] [] t10.2) (fun (e12 : xr_S) => J 157 [some (.ref (ad 49)), some (.int a1), none, none, none, none, none] [] e12) hf (fun e12 hf => ?_) (fun K13 hK13 t10 rec11 hrec11 hf => ?_)
      · refine xr_lconst B (v := 0) dX11_bread_157 (by decide) ?_
        refine xr_lstore_n B (lv2 := [some (.ref (ad 49)), some (.int a1), some (.long 0), none, none, none, none]) dX11_bread_158 rfl (by decide) rfl ?_
        refine xr_iload_n B dX11_bread_159 rfl rfl ?_
        refine xr_istore B (lv2 := [some (.ref (ad 49)), some (.int a1), some (.long 0), none, some (.int a1), none, none]) dX11_bread_160 (by decide) rfl ?_
        refine xr_forget B (lv2 := [some (.ref (ad 49)), none, some (.long 0), none, some (.int a1), none, none]) ⟨rfl, ⟨rfl, ⟨rfl, trivial⟩⟩⟩ ?_
        refine xq_loop (fun (t33 : (Int64 × Int32)) => J 162 [some (.ref (ad 49)), none, some (.long t33.1), none, some (.int t33.2), none, none] [] e12) (fun (e35 : Int64) => J 185 [none, none, some (.long e35), none, none, none, none] [] e12) hf (fun e35 hf => ?_) (fun K36 hK36 t33 rec34 hrec34 hf => ?_)
        · refine xr_lload_n B dX11_bread_185 rfl rfl ?_
          refine xr_l2i B dX11_bread_186 ?_
          obtain rfl := Option.some.inj hf
          exact RR _ _ _ dX11_bread_187 rfl
        · have hrec34 : ∀ (b1 : Int64) (b2 : Int32), rec34 (b1, b2) = some q → J 162 [some (.ref (ad 49)), none, some (.long b1), none, some (.int b2), none, none] [] e12 := fun b1 b2 h => hrec34 (b1, b2) h
          unfold xf_X11_bread_L162 at hf
          refine xr_iload B dX11_bread_162 rfl ?_
          refine xr_bipush B (v := 8) dX11_bread_164 (by decide) ?_
          refine xr_ic_ge B (tgt := 185) dX11_bread_166 (by decide) hf (fun _ hf => ?_) (fun _ hf => ?_)
          · refine xr_forget B (lv2 := [none, none, some (.long t33.1), none, none, none, none]) ⟨rfl, trivial⟩ ?_
            exact hK36 t33.1 hf
          · refine xr_lload_n B dX11_bread_169 rfl rfl ?_
            refine xr_aload_n B dX11_bread_170 rfl rfl ?_
            refine xr_getR B xg_X11_57 xh_49 rfl dX11_bread_171 ?_
            refine xr_iload B dX11_bread_174 rfl ?_
            refine xq_lald B xh_64 dX11_bread_176 hf (fun v37 hf => ?_)
            refine xr_ladd B dX11_bread_177 ?_
            refine xr_topl _ hf (fun v38 hf => ?_)
            refine xr_lstore_n B (lv2 := [some (.ref (ad 49)), none, some (.long v38), none, some (.int t33.2), none, none]) dX11_bread_178 rfl (by decide) rfl ?_
            refine xr_iinc B (v := (t33.2 + 1)) (lv2 := [some (.ref (ad 49)), none, some (.long v38), none, some (.int (t33.2 + 1)), none, none]) dX11_bread_179 rfl (congrArg (t33.2 + ·) (by decide : Int32.ofInt (1) = 1)) (by decide) rfl ?_
            refine xr_goto B (tgt := 162) dX11_bread_182 (by decide) ?_
            exact hrec34 v38 (t33.2 + 1) hf
      · have hrec11 : ∀ (b1 : Int32) (b2 : xr_S), rec11 (b1, b2) = some q → J 48 [some (.ref (ad 49)), some (.int a1), some (.int b1), none, none, none, none] [] b2 := fun b1 b2 h => hrec11 (b1, b2) h
        unfold xf_X11_bread_L48 at hf
        refine xr_iload_n B dX11_bread_48 rfl rfl ?_
        refine xr_aload_n B dX11_bread_49 rfl rfl ?_
        refine xr_getI B xg_X11_83 xh_49 rfl dX11_bread_50 ?_
        refine xr_ic_ge B (tgt := 157) dX11_bread_53 (by decide) hf (fun _ hf => ?_) (fun _ hf => ?_)
        · refine xr_forget B (lv2 := [some (.ref (ad 49)), some (.int a1), none, none, none, none, none]) ⟨rfl, ⟨rfl, trivial⟩⟩ ?_
          exact hK13 t10.2 hf
        · refine xr_aload_n B dX11_bread_56 rfl rfl ?_
          refine xr_getR B xg_X11_7 xh_49 rfl dX11_bread_57 ?_
          refine xr_bipush B (v := 30) dX11_bread_60 (by decide) ?_
          refine xr_iload_n B dX11_bread_62 rfl rfl ?_
          refine xr_iadd B dX11_bread_63 ?_
          refine xq_iald B xh_50 dX11_bread_64 hf (fun v14 hf => ?_)
          refine xr_istore_n B (lv2 := [some (.ref (ad 49)), some (.int a1), some (.int t10.1), some (.int v14), none, none, none]) dX11_bread_65 rfl (by decide) rfl ?_
          refine xr_iload_n B dX11_bread_66 rfl rfl ?_
          refine xr_iconst B (v := (-1)) dX11_bread_67 (by decide) ?_
          refine xr_meet (fun (w15 : xr_S) => J 151 [some (.ref (ad 49)), some (.int a1), some (.int t10.1), none, none, none, none] [] w15) hf (fun w15 hf => ?_) (fun j16 hj16 hf => ?_)
          · refine xr_iinc B (v := (t10.1 + 1)) (lv2 := [some (.ref (ad 49)), some (.int a1), some (.int (t10.1 + 1)), none, none, none, none]) dX11_bread_151 rfl (congrArg (t10.1 + ·) (by decide : Int32.ofInt (1) = 1)) (by decide) rfl ?_
            refine xr_goto B (tgt := 48) dX11_bread_154 (by decide) ?_
            exact hrec11 (t10.1 + 1) w15 hf
          · refine xr_ic_eq B (tgt := 151) dX11_bread_68 (by decide) hf (fun _ hf => ?_) (fun _ hf => ?_)
            · refine xr_forget B (lv2 := [some (.ref (ad 49)), some (.int a1), some (.int t10.1), none, none, none, none]) ⟨rfl, ⟨rfl, ⟨rfl, trivial⟩⟩⟩ ?_
              exact hj16 t10.2 hf
            · refine xr_aload_n B dX11_bread_71 rfl rfl ?_
              refine xr_iload_n B dX11_bread_72 rfl rfl ?_
              refine xr_cVi B (rest := []) [.int v14] xm_X11_isAwake xv_X11_218 (fun q hq => xc_X11_isAwake l D ad ca t10.2 v14 q hq) xh_49 rfl rfl (by decide) rfl (Nat.le_of_ble_eq_true rfl) dX11_bread_73 hf (fun v18 hf => ?_)
              refine xr_if_ne B (tgt := 151) dX11_bread_76 (by decide) hf (fun _ hf => ?_) (fun _ hf => ?_)
              · refine xr_bipush B (v := 6) dX11_bread_79 (by decide) ?_
                refine xr_istore B (lv2 := [some (.ref (ad 49)), some (.int a1), some (.int t10.1), some (.int v14), some (.int 6), none, none]) dX11_bread_81 (by decide) rfl ?_
                refine xq_loop (fun (t19 : (Int32 × xr_S)) => J 83 [some (.ref (ad 49)), some (.int a1), some (.int t10.1), some (.int v14), some (.int t19.1), none, none] [] t19.2) (fun (e21 : xr_S) => J 151 [some (.ref (ad 49)), some (.int a1), some (.int t10.1), none, none, none, none] [] e21) hf (fun e21 hf => ?_) (fun K22 hK22 t19 rec20 hrec20 hf => ?_)
                · exact hj16 e21 hf
                · have hrec20 : ∀ (b1 : Int32) (b2 : xr_S), rec20 (b1, b2) = some q → J 83 [some (.ref (ad 49)), some (.int a1), some (.int t10.1), some (.int v14), some (.int b1), none, none] [] b2 := fun b1 b2 h => hrec20 (b1, b2) h
                  unfold xf_X11_bread_L83 at hf
                  refine xr_iload B dX11_bread_83 rfl ?_
                  refine xr_if_lt B (tgt := 151) dX11_bread_85 (by decide) hf (fun _ hf => ?_) (fun _ hf => ?_)
                  · refine xr_forget B (lv2 := [some (.ref (ad 49)), some (.int a1), some (.int t10.1), none, none, none, none]) ⟨rfl, ⟨rfl, ⟨rfl, trivial⟩⟩⟩ ?_
                    exact hK22 t19.2 hf
                  · refine xr_aload_n B dX11_bread_88 rfl rfl ?_
                    refine xr_getR B xg_X11_57 xh_49 rfl dX11_bread_89 ?_
                    refine xr_iload B dX11_bread_92 rfl ?_
                    refine xq_lald B xh_64 dX11_bread_94 hf (fun v23 hf => ?_)
                    refine xr_aload_n B dX11_bread_95 rfl rfl ?_
                    refine xr_iconst B (v := 0) dX11_bread_96 (by decide) ?_
                    refine xr_iload_n B dX11_bread_97 rfl rfl ?_
                    refine xr_aload_n B dX11_bread_98 rfl rfl ?_
                    refine xr_getR B xg_X11_20 xh_49 rfl dX11_bread_99 ?_
                    refine xr_iload_n B dX11_bread_102 rfl rfl ?_
                    refine xq_iald B xh_53 dX11_bread_103 hf (fun v24 hf => ?_)
                    refine xr_cVi B (rest := [.long v23]) [.int 0, .int v14, .int v24] xm_X11_weightOf xv_X11_182 (fun q hq => xc_X11_weightOf l D ad ca t19.2 0 v14 v24 q hq) xh_49 rfl rfl (by decide) rfl (Nat.le_of_ble_eq_true rfl) dX11_bread_104 hf (fun v25 hf => ?_)
                    refine xr_i2l B dX11_bread_107 ?_
                    refine xr_lmul B dX11_bread_108 ?_
                    refine xr_aload_n B dX11_bread_109 rfl rfl ?_
                    refine xr_iconst B (v := 0) dX11_bread_110 (by decide) ?_
                    refine xr_iload_n B dX11_bread_111 rfl rfl ?_
                    refine xr_cVi B (rest := [.long (v23 * (Int32.toInt64 v25))]) [.int 0, .int v14] xm_X11_allOf xv_X11_193 (fun q hq => xc_X11_allOf l D ad ca t19.2 0 v14 q hq) xh_49 rfl rfl (by decide) rfl (Nat.le_of_ble_eq_true rfl) dX11_bread_112 hf (fun v26 hf => ?_)
                    refine xr_i2l B dX11_bread_115 ?_
                    refine xr_ldiv B dX11_bread_116 hf (fun hf => ?_)
                    refine xr_topl _ hf (fun v27 hf => ?_)
                    refine xr_lstore B (lv2 := [some (.ref (ad 49)), some (.int a1), some (.int t10.1), some (.int v14), some (.int t19.1), some (.long v27), none]) dX11_bread_117 (by decide) rfl ?_
                    refine xr_aload_n B dX11_bread_119 rfl rfl ?_
                    refine xr_getR B xg_X11_57 xh_49 rfl dX11_bread_120 ?_
                    refine xr_iload B dX11_bread_123 rfl ?_
                    refine xr_dup2 B dX11_bread_125 rfl rfl ?_
                    refine xq_lald B xh_64 dX11_bread_126 hf (fun v28 hf => ?_)
                    refine xr_lload B dX11_bread_127 rfl ?_
                    refine xr_lsub B dX11_bread_129 ?_
                    refine xq_last B xh_64 dX11_bread_130 hf (fun s29 hf => ?_)
                    refine xr_aload_n B dX11_bread_131 rfl rfl ?_
                    refine xr_getR B xg_X11_57 xh_49 rfl dX11_bread_132 ?_
                    refine xr_iload B dX11_bread_135 rfl ?_
                    refine xr_iconst B (v := 1) dX11_bread_137 (by decide) ?_
                    refine xr_iadd B dX11_bread_138 ?_
                    refine xr_dup2 B dX11_bread_139 rfl rfl ?_
                    refine xq_lald B xh_64 dX11_bread_140 hf (fun v30 hf => ?_)
                    refine xr_lload B dX11_bread_141 rfl ?_
                    refine xr_ladd B dX11_bread_143 ?_
                    refine xq_last B xh_64 dX11_bread_144 hf (fun s31 hf => ?_)
                    refine xr_iinc B (v := (t19.1 + (-1))) (lv2 := [some (.ref (ad 49)), some (.int a1), some (.int t10.1), some (.int v14), some (.int (t19.1 + (-1))), some (.long v27), none]) dX11_bread_145 rfl (congrArg (t19.1 + ·) (by decide : Int32.ofInt (-1) = -1)) (by decide) rfl ?_
                    refine xr_goto B (tgt := 83) dX11_bread_148 (by decide) ?_
                    refine xr_forget B (lv2 := [some (.ref (ad 49)), some (.int a1), some (.int t10.1), some (.int v14), some (.int (t19.1 + (-1))), none, none]) ⟨rfl, ⟨rfl, ⟨rfl, ⟨rfl, ⟨rfl, trivial⟩⟩⟩⟩⟩ ?_
                    exact hrec20 (t19.1 + (-1)) s31 hf
              · refine xr_forget B (lv2 := [some (.ref (ad 49)), some (.int a1), some (.int t10.1), none, none, none, none]) ⟨rfl, ⟨rfl, ⟨rfl, trivial⟩⟩⟩ ?_
                exact hj16 t10.2 hf
    · have hrec3 : ∀ (b1 : Int32) (b2 : xr_S), rec3 (b1, b2) = some q → J 17 [some (.ref (ad 49)), some (.int a1), some (.int b1), none, none, none, none] [] b2 := fun b1 b2 h => hrec3 (b1, b2) h
      unfold xf_X11_bread_L17 at hf
      refine xr_iload_n B dX11_bread_17 rfl rfl ?_
      refine xr_bipush B (v := 8) dX11_bread_18 (by decide) ?_
      refine xr_ic_ge B (tgt := 46) dX11_bread_20 (by decide) hf (fun _ hf => ?_) (fun _ hf => ?_)
      · refine xr_forget B (lv2 := [some (.ref (ad 49)), some (.int a1), none, none, none, none, none]) ⟨rfl, ⟨rfl, trivial⟩⟩ ?_
        exact hK5 t2.2 hf
      · refine xr_aload_n B dX11_bread_23 rfl rfl ?_
        refine xr_getR B xg_X11_57 xh_49 rfl dX11_bread_24 ?_
        refine xr_iload_n B dX11_bread_27 rfl rfl ?_
        refine xr_iload_n B dX11_bread_28 rfl rfl ?_
        refine xr_meet (fun (w6 : Int64) => J 39 [some (.ref (ad 49)), some (.int a1), some (.int t2.1), none, none, none, none] [.long w6, .int t2.1, .ref (ad 64)] t2.2) hf (fun w6 hf => ?_) (fun j7 hj7 hf => ?_)
        · refine xq_last B xh_64 dX11_bread_39 hf (fun s8 hf => ?_)
          refine xr_iinc B (v := (t2.1 + 1)) (lv2 := [some (.ref (ad 49)), some (.int a1), some (.int (t2.1 + 1)), none, none, none, none]) dX11_bread_40 rfl (congrArg (t2.1 + ·) (by decide : Int32.ofInt (1) = 1)) (by decide) rfl ?_
          refine xr_goto B (tgt := 17) dX11_bread_43 (by decide) ?_
          exact hrec3 (t2.1 + 1) s8 hf
        · refine xr_if_ne B (tgt := 38) dX11_bread_29 (by decide) hf (fun _ hf => ?_) (fun _ hf => ?_)
          · refine xr_ldc2 B xl_X11_203 dX11_bread_32 ?_
            refine xr_goto B (tgt := 39) dX11_bread_35 (by decide) ?_
            exact hj7 1000000 hf
          · refine xr_lconst B (v := 0) dX11_bread_38 (by decide) ?_
            exact hj7 0 hf

noncomputable def xf_X11_write (σ : xr_S) (a1 : Int32) (a2 : Int32) (a3 : Int32) : Option (Int32 × xr_S) := (xf_X11_isSleeper σ a1).bind (fun v1 => if v1 = 0 then (some ((-1000000001), σ)) else ((xf_X11_isDream σ a2).bind (fun v2 => if v2 = 0 then (some ((-1000000001), σ)) else ((xf_X11_in σ (Int32.toInt64 a3) 0 9).bind (fun v3 => if v3 = 0 then (some ((-1000000002), σ)) else (if (σ.1 49 33) = 15 then (some ((-1000000004), σ)) else (xr_st σ 65 15 (σ.1 49 33) a1 (fun s4 => xr_st s4 66 15 (s4.1 49 33) a2 (fun s5 => xr_st s5 67 15 (s5.1 49 33) a3 (fun s6 => xr_pf s6 49 33 ((s6.1 49 33) + 1) (fun s7 => some ((s7.1 49 33), s7))))))))))))
set_option maxRecDepth 100000 in
set_option maxHeartbeats 4000000 in
theorem xc_X11_write (l : Launch) (D : va_G) (ad : Nat → Nat) (ca : Nat → ClassId) (σ : xr_S) (a1 : Int32) (a2 : Int32) (a3 : Int32) (q : (Int32 × xr_S)) (hf : xf_X11_write σ a1 a2 a3 = some q) : xr_M l D ad ca yX11_write cX11_write 4 (some .int) 2 46 [.ref (ad 49), .int a1, .int a2, .int a3] σ (some (.int q.1)) q.2 := by
  refine xr_openI [some (.ref (ad 49)), some (.int a1), some (.int a2), some (.int a3)] xm_X11_write (Nat.le_of_ble_eq_true rfl) rfl (fun J B RR => ?_)
  unfold xf_X11_write at hf
  refine xr_aload_n B dX11_write_0 rfl rfl ?_
  refine xr_iload_n B dX11_write_1 rfl rfl ?_
  refine xr_cVi B (rest := []) [.int a1] xm_X11_isSleeper xv_X11_186 (fun q hq => xc_X11_isSleeper l D ad ca σ a1 q hq) xh_49 rfl rfl (by decide) rfl (Nat.le_of_ble_eq_true rfl) dX11_write_2 hf (fun v1 hf => ?_)
  refine xr_if_eq B (tgt := 16) dX11_write_5 (by decide) hf (fun _ hf => ?_) (fun _ hf => ?_)
  · refine xr_ldc B xk_X11_192 dX11_write_16 ?_
    obtain rfl := Option.some.inj hf
    exact RR _ _ _ dX11_write_18 rfl
  · refine xr_aload_n B dX11_write_8 rfl rfl ?_
    refine xr_iload_n B dX11_write_9 rfl rfl ?_
    refine xr_cVi B (rest := []) [.int a2] xm_X11_isDream xv_X11_189 (fun q hq => xc_X11_isDream l D ad ca σ a2 q hq) xh_49 rfl rfl (by decide) rfl (Nat.le_of_ble_eq_true rfl) dX11_write_10 hf (fun v2 hf => ?_)
    refine xr_if_ne B (tgt := 19) dX11_write_13 (by decide) hf (fun _ hf => ?_) (fun _ hf => ?_)
    · refine xr_ldc B xk_X11_192 dX11_write_16 ?_
      obtain rfl := Option.some.inj hf
      exact RR _ _ _ dX11_write_18 rfl
    · refine xr_iload_n B dX11_write_19 rfl rfl ?_
      refine xr_i2l B dX11_write_20 ?_
      refine xr_lconst B (v := 0) dX11_write_21 (by decide) ?_
      refine xr_ldc2 B xl_X11_175 dX11_write_22 ?_
      refine xr_cSi B (rest := []) [.long (Int32.toInt64 a3), .long 0, .long 9] xm_X11_in xs_X11_76 (fun q hq => xc_X11_in l D ad ca σ (Int32.toInt64 a3) 0 9 q hq) rfl (by decide) rfl (Nat.le_of_ble_eq_true rfl) dX11_write_25 hf (fun v3 hf => ?_)
      refine xr_if_ne B (tgt := 34) dX11_write_28 (by decide) hf (fun _ hf => ?_) (fun _ hf => ?_)
      · refine xr_ldc B xk_X11_88 dX11_write_31 ?_
        obtain rfl := Option.some.inj hf
        exact RR _ _ _ dX11_write_33 rfl
      · refine xr_aload_n B dX11_write_34 rfl rfl ?_
        refine xr_getI B xg_X11_172 xh_49 rfl dX11_write_35 ?_
        refine xr_bipush B (v := 15) dX11_write_38 (by decide) ?_
        refine xr_ic_ne B (tgt := 46) dX11_write_40 (by decide) hf (fun _ hf => ?_) (fun _ hf => ?_)
        · refine xr_ldc B xk_X11_92 dX11_write_43 ?_
          obtain rfl := Option.some.inj hf
          exact RR _ _ _ dX11_write_45 rfl
        · refine xr_aload_n B dX11_write_46 rfl rfl ?_
          refine xr_getR B xg_X11_61 xh_49 rfl dX11_write_47 ?_
          refine xr_aload_n B dX11_write_50 rfl rfl ?_
          refine xr_getI B xg_X11_172 xh_49 rfl dX11_write_51 ?_
          refine xr_iload_n B dX11_write_54 rfl rfl ?_
          refine xq_iast B xh_65 dX11_write_55 hf (fun s4 hf => ?_)
          refine xr_aload_n B dX11_write_56 rfl rfl ?_
          refine xr_getR B xg_X11_64 xh_49 rfl dX11_write_57 ?_
          refine xr_aload_n B dX11_write_60 rfl rfl ?_
          refine xr_getI B xg_X11_172 xh_49 rfl dX11_write_61 ?_
          refine xr_iload_n B dX11_write_64 rfl rfl ?_
          refine xq_iast B xh_66 dX11_write_65 hf (fun s5 hf => ?_)
          refine xr_aload_n B dX11_write_66 rfl rfl ?_
          refine xr_getR B xg_X11_67 xh_49 rfl dX11_write_67 ?_
          refine xr_aload_n B dX11_write_70 rfl rfl ?_
          refine xr_getI B xg_X11_172 xh_49 rfl dX11_write_71 ?_
          refine xr_iload_n B dX11_write_74 rfl rfl ?_
          refine xq_iast B xh_67 dX11_write_75 hf (fun s6 hf => ?_)
          refine xr_aload_n B dX11_write_76 rfl rfl ?_
          refine xr_dup B dX11_write_77 rfl ?_
          refine xr_getI B xg_X11_172 xh_49 rfl dX11_write_78 ?_
          refine xr_iconst B (v := 1) dX11_write_81 (by decide) ?_
          refine xr_iadd B dX11_write_82 ?_
          refine xq_put B xp_X11_172 rfl rfl xh_49 rfl dX11_write_83 hf (fun s7 hf => ?_)
          refine xr_aload_n B dX11_write_86 rfl rfl ?_
          refine xr_getI B xg_X11_172 xh_49 rfl dX11_write_87 ?_
          obtain rfl := Option.some.inj hf
          exact RR _ _ _ dX11_write_90 rfl

noncomputable def xf_X11_tear (σ : xr_S) : Option (Int32 × xr_S) := xr_v (((σ.1 49 28) + (σ.1 49 33))) (fun v1 => xr_pf σ 49 28 0 (fun s2 => xr_pf s2 49 33 0 (fun s3 => some (v1, s3))))
set_option maxRecDepth 100000 in
set_option maxHeartbeats 4000000 in
theorem xc_X11_tear (l : Launch) (D : va_G) (ad : Nat → Nat) (ca : Nat → ClassId) (σ : xr_S) (q : (Int32 × xr_S)) (hf : xf_X11_tear σ = some q) : xr_M l D ad ca yX11_tear cX11_tear 2 (some .int) 0 0 [.ref (ad 49)] σ (some (.int q.1)) q.2 := by
  refine xr_openI [some (.ref (ad 49)), none] xm_X11_tear (Nat.le_of_ble_eq_true rfl) rfl (fun J B RR => ?_)
  unfold xf_X11_tear at hf
  refine xr_aload_n B dX11_tear_0 rfl rfl ?_
  refine xr_getI B xg_X11_169 xh_49 rfl dX11_tear_1 ?_
  refine xr_aload_n B dX11_tear_4 rfl rfl ?_
  refine xr_getI B xg_X11_172 xh_49 rfl dX11_tear_5 ?_
  refine xr_iadd B dX11_tear_8 ?_
  refine xr_top _ hf (fun v1 hf => ?_)
  refine xr_istore_n B (lv2 := [some (.ref (ad 49)), some (.int v1)]) dX11_tear_9 rfl (by decide) rfl ?_
  refine xr_aload_n B dX11_tear_10 rfl rfl ?_
  refine xr_iconst B (v := 0) dX11_tear_11 (by decide) ?_
  refine xq_put B xp_X11_169 rfl rfl xh_49 rfl dX11_tear_12 hf (fun s2 hf => ?_)
  refine xr_aload_n B dX11_tear_15 rfl rfl ?_
  refine xr_iconst B (v := 0) dX11_tear_16 (by decide) ?_
  refine xq_put B xp_X11_172 rfl rfl xh_49 rfl dX11_tear_17 hf (fun s3 hf => ?_)
  refine xr_iload_n B dX11_tear_20 rfl rfl ?_
  obtain rfl := Option.some.inj hf
  exact RR _ _ _ dX11_tear_21 rfl

noncomputable def xf_X11_judge_L2 (σ : xr_S) (K4 : Unit → Option Int32) (t1 : Int32) (rec2 : Int32 → Option Int32) : Option Int32 := if (σ.1 49 33) ≤ t1 then (K4 ()) else (xr_ld σ 65 15 t1 (fun v5 => xr_ld σ 66 15 t1 (fun v6 => (xf_X11_weightOf σ 0 v5 v6).bind (fun v7 => xr_ld σ 67 15 t1 (fun v8 => if v7 = v8 then (rec2 (t1 + 1)) else (some t1))))))
noncomputable def xf_X11_judge (σ : xr_S) : Option Int32 := xr_lw (xf_X11_judge_L2 σ (fun (e3 : Unit) => some (-1))) 0
set_option maxRecDepth 100000 in
set_option maxHeartbeats 4000000 in
theorem xc_X11_judge (l : Launch) (D : va_G) (ad : Nat → Nat) (ca : Nat → ClassId) (σ : xr_S) (q : Int32) (hf : xf_X11_judge σ = some q) : xr_M l D ad ca yX11_judge cX11_judge 2 (some .int) 1 23 [.ref (ad 49)] σ (some (.int q)) σ := by
  refine xr_openI [some (.ref (ad 49)), none] xm_X11_judge (Nat.le_of_ble_eq_true rfl) rfl (fun J B RR => ?_)
  unfold xf_X11_judge at hf
  refine xr_iconst B (v := 0) dX11_judge_0 (by decide) ?_
  refine xr_istore_n B (lv2 := [some (.ref (ad 49)), some (.int 0)]) dX11_judge_1 rfl (by decide) rfl ?_
  refine xq_loop (fun (t1 : Int32) => J 2 [some (.ref (ad 49)), some (.int t1)] [] σ) (fun (e3 : Unit) => J 44 [none, none] [] σ) hf (fun e3 hf => ?_) (fun K4 hK4 t1 rec2 hrec2 hf => ?_)
  · refine xr_iconst B (v := (-1)) dX11_judge_44 (by decide) ?_
    obtain rfl := Option.some.inj hf
    exact RR _ _ _ dX11_judge_45 rfl
  · unfold xf_X11_judge_L2 at hf
    refine xr_iload_n B dX11_judge_2 rfl rfl ?_
    refine xr_aload_n B dX11_judge_3 rfl rfl ?_
    refine xr_getI B xg_X11_172 xh_49 rfl dX11_judge_4 ?_
    refine xr_ic_ge B (tgt := 44) dX11_judge_7 (by decide) hf (fun _ hf => ?_) (fun _ hf => ?_)
    · refine xr_forget B (lv2 := [none, none]) trivial ?_
      exact hK4 () hf
    · refine xr_aload_n B dX11_judge_10 rfl rfl ?_
      refine xr_iconst B (v := 0) dX11_judge_11 (by decide) ?_
      refine xr_aload_n B dX11_judge_12 rfl rfl ?_
      refine xr_getR B xg_X11_61 xh_49 rfl dX11_judge_13 ?_
      refine xr_iload_n B dX11_judge_16 rfl rfl ?_
      refine xq_iald B xh_65 dX11_judge_17 hf (fun v5 hf => ?_)
      refine xr_aload_n B dX11_judge_18 rfl rfl ?_
      refine xr_getR B xg_X11_64 xh_49 rfl dX11_judge_19 ?_
      refine xr_iload_n B dX11_judge_22 rfl rfl ?_
      refine xq_iald B xh_66 dX11_judge_23 hf (fun v6 hf => ?_)
      refine xr_cVi B (rest := []) [.int 0, .int v5, .int v6] xm_X11_weightOf xv_X11_182 (fun q hq => xc_X11_weightOf l D ad ca σ 0 v5 v6 q hq) xh_49 rfl rfl (by decide) rfl (Nat.le_of_ble_eq_true rfl) dX11_judge_24 hf (fun v7 hf => ?_)
      refine xr_aload_n B dX11_judge_27 rfl rfl ?_
      refine xr_getR B xg_X11_67 xh_49 rfl dX11_judge_28 ?_
      refine xr_iload_n B dX11_judge_31 rfl rfl ?_
      refine xq_iald B xh_67 dX11_judge_32 hf (fun v8 hf => ?_)
      refine xr_ic_eq B (tgt := 38) dX11_judge_33 (by decide) hf (fun _ hf => ?_) (fun _ hf => ?_)
      · refine xr_iinc B (v := (t1 + 1)) (lv2 := [some (.ref (ad 49)), some (.int (t1 + 1))]) dX11_judge_38 rfl (congrArg (t1 + ·) (by decide : Int32.ofInt (1) = 1)) (by decide) rfl ?_
        refine xr_goto B (tgt := 2) dX11_judge_41 (by decide) ?_
        exact hrec2 (t1 + 1) hf
      · refine xr_iload_n B dX11_judge_36 rfl rfl ?_
        obtain rfl := Option.some.inj hf
        exact RR _ _ _ dX11_judge_37 rfl

noncomputable def xf_X11_seed (σ : xr_S) (a1 : Int32) : Option (Int32 × xr_S) := if 0 ≤ a1 then (xr_ld σ 50 220 54 (fun v1 => xr_st σ 50 220 54 a1 (fun s2 => some (v1, s2)))) else (some ((-1000000002), σ))
set_option maxRecDepth 100000 in
set_option maxHeartbeats 4000000 in
theorem xc_X11_seed (l : Launch) (D : va_G) (ad : Nat → Nat) (ca : Nat → ClassId) (σ : xr_S) (a1 : Int32) (q : (Int32 × xr_S)) (hf : xf_X11_seed σ a1 = some q) : xr_M l D ad ca yX11_seed cX11_seed 3 (some .int) 0 0 [.ref (ad 49), .int a1] σ (some (.int q.1)) q.2 := by
  refine xr_openI [some (.ref (ad 49)), some (.int a1), none] xm_X11_seed (Nat.le_of_ble_eq_true rfl) rfl (fun J B RR => ?_)
  unfold xf_X11_seed at hf
  refine xr_iload_n B dX11_seed_0 rfl rfl ?_
  refine xr_if_ge B (tgt := 7) dX11_seed_1 (by decide) hf (fun _ hf => ?_) (fun _ hf => ?_)
  · refine xr_aload_n B dX11_seed_7 rfl rfl ?_
    refine xr_getR B xg_X11_7 xh_49 rfl dX11_seed_8 ?_
    refine xr_bipush B (v := 54) dX11_seed_11 (by decide) ?_
    refine xq_iald B xh_50 dX11_seed_13 hf (fun v1 hf => ?_)
    refine xr_istore_n B (lv2 := [some (.ref (ad 49)), some (.int a1), some (.int v1)]) dX11_seed_14 rfl (by decide) rfl ?_
    refine xr_aload_n B dX11_seed_15 rfl rfl ?_
    refine xr_getR B xg_X11_7 xh_49 rfl dX11_seed_16 ?_
    refine xr_bipush B (v := 54) dX11_seed_19 (by decide) ?_
    refine xr_iload_n B dX11_seed_21 rfl rfl ?_
    refine xq_iast B xh_50 dX11_seed_22 hf (fun s2 hf => ?_)
    refine xr_iload_n B dX11_seed_23 rfl rfl ?_
    obtain rfl := Option.some.inj hf
    exact RR _ _ _ dX11_seed_24 rfl
  · refine xr_ldc B xk_X11_88 dX11_seed_4 ?_
    obtain rfl := Option.some.inj hf
    exact RR _ _ _ dX11_seed_6 rfl

noncomputable def xf_X11_keep (σ : xr_S) (a1 : Int32) : Option (Int32 × xr_S) := (xf_X11_in σ (Int32.toInt64 a1) 0 1).bind (fun v1 => if v1 = 0 then (some ((-1000000001), σ)) else ((xf_X11_copy σ 0 (110 + (55 * a1))).bind (fun s2 => xr_st s2 51 2 a1 1 (fun s3 => some (1, s3)))))
set_option maxRecDepth 100000 in
set_option maxHeartbeats 4000000 in
theorem xc_X11_keep (l : Launch) (D : va_G) (ad : Nat → Nat) (ca : Nat → ClassId) (σ : xr_S) (a1 : Int32) (q : (Int32 × xr_S)) (hf : xf_X11_keep σ a1 = some q) : xr_M l D ad ca yX11_keep cX11_keep 2 (some .int) 1 25 [.ref (ad 49), .int a1] σ (some (.int q.1)) q.2 := by
  refine xr_openI [some (.ref (ad 49)), some (.int a1)] xm_X11_keep (Nat.le_of_ble_eq_true rfl) rfl (fun J B RR => ?_)
  unfold xf_X11_keep at hf
  refine xr_iload_n B dX11_keep_0 rfl rfl ?_
  refine xr_i2l B dX11_keep_1 ?_
  refine xr_lconst B (v := 0) dX11_keep_2 (by decide) ?_
  refine xr_lconst B (v := 1) dX11_keep_3 (by decide) ?_
  refine xr_cSi B (rest := []) [.long (Int32.toInt64 a1), .long 0, .long 1] xm_X11_in xs_X11_76 (fun q hq => xc_X11_in l D ad ca σ (Int32.toInt64 a1) 0 1 q hq) rfl (by decide) rfl (Nat.le_of_ble_eq_true rfl) dX11_keep_4 hf (fun v1 hf => ?_)
  refine xr_if_ne B (tgt := 13) dX11_keep_7 (by decide) hf (fun _ hf => ?_) (fun _ hf => ?_)
  · refine xr_ldc B xk_X11_192 dX11_keep_10 ?_
    obtain rfl := Option.some.inj hf
    exact RR _ _ _ dX11_keep_12 rfl
  · refine xr_aload_n B dX11_keep_13 rfl rfl ?_
    refine xr_iconst B (v := 0) dX11_keep_14 (by decide) ?_
    refine xr_bipush B (v := 110) dX11_keep_15 (by decide) ?_
    refine xr_bipush B (v := 55) dX11_keep_17 (by decide) ?_
    refine xr_iload_n B dX11_keep_19 rfl rfl ?_
    refine xr_imul B dX11_keep_20 ?_
    refine xr_iadd B dX11_keep_21 ?_
    refine xr_cVv B (rest := []) [.int 0, .int (110 + (55 * a1))] xm_X11_copy xv_X11_249 (fun q hq => xc_X11_copy l D ad ca σ 0 (110 + (55 * a1)) q hq) xh_49 rfl rfl (by decide) rfl (Nat.le_of_ble_eq_true rfl) dX11_keep_22 hf (fun s2 hf => ?_)
    refine xr_aload_n B dX11_keep_25 rfl rfl ?_
    refine xr_getR B xg_X11_13 xh_49 rfl dX11_keep_26 ?_
    refine xr_iload_n B dX11_keep_29 rfl rfl ?_
    refine xr_iconst B (v := 1) dX11_keep_30 (by decide) ?_
    refine xq_bast B rfl xh_51 dX11_keep_31 hf (fun s3 hf => ?_)
    refine xr_iconst B (v := 1) dX11_keep_32 (by decide) ?_
    obtain rfl := Option.some.inj hf
    exact RR _ _ _ dX11_keep_33 rfl

noncomputable def xf_X11_goBack (σ : xr_S) (a1 : Int32) : Option (Int32 × xr_S) := (xf_X11_in σ (Int32.toInt64 a1) 0 1).bind (fun v1 => if v1 = 0 then (some ((-1000000001), σ)) else (xr_ld σ 51 2 a1 (fun v2 => if v2 = 0 then (some ((-1000000003), σ)) else ((xf_X11_copy σ (110 + (55 * a1)) 0).bind (fun s3 => some (1, s3))))))
set_option maxRecDepth 100000 in
set_option maxHeartbeats 4000000 in
theorem xc_X11_goBack (l : Launch) (D : va_G) (ad : Nat → Nat) (ca : Nat → ClassId) (σ : xr_S) (a1 : Int32) (q : (Int32 × xr_S)) (hf : xf_X11_goBack σ a1 = some q) : xr_M l D ad ca yX11_goBack cX11_goBack 2 (some .int) 1 25 [.ref (ad 49), .int a1] σ (some (.int q.1)) q.2 := by
  refine xr_openI [some (.ref (ad 49)), some (.int a1)] xm_X11_goBack (Nat.le_of_ble_eq_true rfl) rfl (fun J B RR => ?_)
  unfold xf_X11_goBack at hf
  refine xr_iload_n B dX11_goBack_0 rfl rfl ?_
  refine xr_i2l B dX11_goBack_1 ?_
  refine xr_lconst B (v := 0) dX11_goBack_2 (by decide) ?_
  refine xr_lconst B (v := 1) dX11_goBack_3 (by decide) ?_
  refine xr_cSi B (rest := []) [.long (Int32.toInt64 a1), .long 0, .long 1] xm_X11_in xs_X11_76 (fun q hq => xc_X11_in l D ad ca σ (Int32.toInt64 a1) 0 1 q hq) rfl (by decide) rfl (Nat.le_of_ble_eq_true rfl) dX11_goBack_4 hf (fun v1 hf => ?_)
  refine xr_if_ne B (tgt := 13) dX11_goBack_7 (by decide) hf (fun _ hf => ?_) (fun _ hf => ?_)
  · refine xr_ldc B xk_X11_192 dX11_goBack_10 ?_
    obtain rfl := Option.some.inj hf
    exact RR _ _ _ dX11_goBack_12 rfl
  · refine xr_aload_n B dX11_goBack_13 rfl rfl ?_
    refine xr_getR B xg_X11_13 xh_49 rfl dX11_goBack_14 ?_
    refine xr_iload_n B dX11_goBack_17 rfl rfl ?_
    refine xq_bald B xh_51 dX11_goBack_18 hf (fun v2 hf => ?_)
    refine xr_if_ne B (tgt := 25) dX11_goBack_19 (by decide) hf (fun _ hf => ?_) (fun _ hf => ?_)
    · refine xr_ldc B xk_X11_205 dX11_goBack_22 ?_
      obtain rfl := Option.some.inj hf
      exact RR _ _ _ dX11_goBack_24 rfl
    · refine xr_aload_n B dX11_goBack_25 rfl rfl ?_
      refine xr_bipush B (v := 110) dX11_goBack_26 (by decide) ?_
      refine xr_bipush B (v := 55) dX11_goBack_28 (by decide) ?_
      refine xr_iload_n B dX11_goBack_30 rfl rfl ?_
      refine xr_imul B dX11_goBack_31 ?_
      refine xr_iadd B dX11_goBack_32 ?_
      refine xr_iconst B (v := 0) dX11_goBack_33 (by decide) ?_
      refine xr_cVv B (rest := []) [.int (110 + (55 * a1)), .int 0] xm_X11_copy xv_X11_249 (fun q hq => xc_X11_copy l D ad ca σ (110 + (55 * a1)) 0 q hq) xh_49 rfl rfl (by decide) rfl (Nat.le_of_ble_eq_true rfl) dX11_goBack_34 hf (fun s3 hf => ?_)
      refine xr_iconst B (v := 1) dX11_goBack_37 (by decide) ?_
      obtain rfl := Option.some.inj hf
      exact RR _ _ _ dX11_goBack_38 rfl
