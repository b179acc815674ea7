noncomputable def xf_X11_findBeds_L46 (t6 : (Int32 × xr_S)) (t2 : (Int32 × xr_S)) (K15 : Int32 → Option xr_S) (t12 : (Int32 × Int32)) (rec13 : (Int32 × Int32) → Option xr_S) : Option xr_S := if (t6.2.1 49 4) ≤ t12.2 then (K15 t12.1) else (if (t6.2.1 49 5) ≤ t2.1 then (K15 t12.1) else ((xf_X11_has t6.2 t6.1 t12.2).bind (fun v16 => xr_jn (fun (w17 : Int32) => xr_jn (fun (w19 : Int32) => xr_jn (fun (w21 : Int32) => rec13 (w21, (t12.2 + 1))) (fun j22 => if w19 ≤ t12.1 then (j22 t12.1) else (j22 w19))) (fun j20 => if w17 = 0 then (j20 0) else ((xf_X11_worthOf t6.2 t2.1 t12.2).bind (fun v24 => xr_ld t6.2 58 512 ((64 * (t2.1 + 1)) + (t6.1 ||| ((1 : Int32) <<< (t12.2 &&& 31)))) (fun v25 => j20 (v24 + v25)))))) (fun j18 => if v16 = 0 then ((xf_X11_mayLie t6.2 t2.1 t12.2).bind (fun v26 => if v26 = 0 then (j18 0) else (j18 1))) else (j18 0)))))
noncomputable def xf_X11_findBeds_L11 (t2 : (Int32 × xr_S)) (K9 : xr_S → Option xr_S) (t6 : (Int32 × xr_S)) (rec7 : (Int32 × xr_S) → Option xr_S) : Option xr_S := if 64 ≤ t6.1 then (K9 t6.2) else (xr_jn (fun (w10 : Int32) => xr_lw (xf_X11_findBeds_L46 t6 t2 (fun (e14 : Int32) => xr_st t6.2 58 512 ((64 * t2.1) + t6.1) e14 (fun s27 => rec7 ((t6.1 + 1), s27)))) (w10, 0)) (fun j11 => if t2.1 = (t6.2.1 49 5) then (j11 0) else (xr_ld t6.2 58 512 ((64 * (t2.1 + 1)) + t6.1) (fun v29 => j11 v29))))
noncomputable def xf_X11_findBeds_L5  (K5 : xr_S → Option xr_S) (t2 : (Int32 × xr_S)) (rec3 : (Int32 × xr_S) → Option xr_S) : Option xr_S := if t2.1 < 0 then (K5 t2.2) else (xr_lw (xf_X11_findBeds_L11 t2 (fun (e8 : xr_S) => rec3 ((t2.1 + (-1)), e8))) (0, t2.2))
noncomputable def xf_X11_findBeds_L195 (t31 : (Int32 × Int32 × xr_S)) (K40 : xr_S → Option xr_S) (t37 : (Int32 × xr_S)) (rec38 : (Int32 × xr_S) → Option xr_S) : Option xr_S := if t37.1 < 0 then (K40 t37.2) else ((xf_X11_has t37.2 t31.1 t37.1).bind (fun v41 => xr_jn (fun (w42 : Int32) => xr_jn (fun (w44 : Int32) => xr_st t37.2 59 7 t31.2.1 w44 (fun s46 => rec38 ((t37.1 + (-1)), s46))) (fun j45 => if w42 = 0 then (xr_ld t37.2 59 7 t31.2.1 (fun v48 => j45 v48)) else (j45 t37.1))) (fun j43 => if v41 = 0 then ((xf_X11_mayLie t37.2 t31.2.1 t37.1).bind (fun v49 => if v49 = 0 then (j43 0) else ((xf_X11_worthOf t37.2 t31.2.1 t37.1).bind (fun v50 => xr_ld t37.2 58 512 ((64 * (t31.2.1 + 1)) + (t31.1 ||| ((1 : Int32) <<< (t37.1 &&& 31)))) (fun v51 => xr_ld t37.2 58 512 ((64 * t31.2.1) + t31.1) (fun v52 => if (v50 + v51) = v52 then (j43 1) else (j43 0))))))) else (j43 0))))
noncomputable def xf_X11_findBeds_L173  (K34 : xr_S → Option xr_S) (t31 : (Int32 × Int32 × xr_S)) (rec32 : (Int32 × Int32 × xr_S) → Option xr_S) : Option xr_S := if (t31.2.2.1 49 5) ≤ t31.2.1 then (K34 t31.2.2) else (xr_st t31.2.2 59 7 t31.2.1 (-1) (fun s35 => xr_v (((s35.1 49 4) - 1)) (fun v36 => xr_lw (xf_X11_findBeds_L195 t31 (fun (e39 : xr_S) => xr_ld e39 58 512 ((64 * (t31.2.1 + 1)) + t31.1) (fun v53 => xr_ld e39 58 512 ((64 * t31.2.1) + t31.1) (fun v54 => xr_jn (fun (w55 : Int32) => xr_st e39 59 7 t31.2.1 w55 (fun s57 => xr_ld s57 59 7 t31.2.1 (fun v58 => xr_jn (fun (w59 : Int32) => xr_v ((t31.1 ||| w59)) (fun v61 => rec32 (v61, (t31.2.1 + 1), s57))) (fun j60 => if v58 = (-1) then (j60 0) else (xr_ld s57 59 7 t31.2.1 (fun v63 => j60 ((1 : Int32) <<< (v63 &&& 31)))))))) (fun j56 => if v53 = v54 then (j56 (-1)) else (xr_ld e39 59 7 t31.2.1 (fun v64 => j56 v64))))))) (v36, s35))))
noncomputable def xf_X11_findBeds (σ : xr_S) : Option xr_S := xr_v ((σ.1 49 5)) (fun v1 => xr_lw (xf_X11_findBeds_L5 (fun (e4 : xr_S) => xr_lw (xf_X11_findBeds_L173 (fun (e33 : xr_S) => some e33)) (0, 0, e4))) (v1, σ))
set_option maxRecDepth 100000 in
set_option maxHeartbeats 4000000 in
theorem xc_X11_findBeds (l : Launch) (D : va_G) (ad : Nat → Nat) (ca : Nat → ClassId) (σ : xr_S) (q : xr_S) (hf : xf_X11_findBeds σ = some q) : xr_M l D ad ca yX11_findBeds cX11_findBeds 7 none 3 69 [.ref (ad 49)] σ none q := by
  refine xr_openV [some (.ref (ad 49)), none, none, none, none, none, none] xm_X11_findBeds (Nat.le_of_ble_eq_true rfl) rfl (fun J B RR => ?_)
  unfold xf_X11_findBeds at hf
  refine xr_aload_n B dX11_findBeds_0 rfl rfl ?_
  refine xr_getI B xg_X11_83 xh_49 rfl dX11_findBeds_1 ?_
  refine xr_top _ hf (fun v1 hf => ?_)
  refine xr_istore_n B (lv2 := [some (.ref (ad 49)), some (.int v1), none, none, none, none, none]) dX11_findBeds_4 rfl (by decide) rfl ?_
  refine xq_loop (fun (t2 : (Int32 × xr_S)) => J 5 [some (.ref (ad 49)), some (.int t2.1), none, none, none, none, none] [] t2.2) (fun (e4 : xr_S) => J 169 [some (.ref (ad 49)), none, none, none, none, none, none] [] e4) hf (fun e4 hf => ?_) (fun K5 hK5 t2 rec3 hrec3 hf => ?_)
  · refine xr_iconst B (v := 0) dX11_findBeds_169 (by decide) ?_
    refine xr_istore_n B (lv2 := [some (.ref (ad 49)), some (.int 0), none, none, none, none, none]) dX11_findBeds_170 rfl (by decide) rfl ?_
    refine xr_iconst B (v := 0) dX11_findBeds_171 (by decide) ?_
    refine xr_istore_n B (lv2 := [some (.ref (ad 49)), some (.int 0), some (.int 0), none, none, none, none]) dX11_findBeds_172 rfl (by decide) rfl ?_
    refine xq_loop (fun (t31 : (Int32 × Int32 × xr_S)) => J 173 [some (.ref (ad 49)), some (.int t31.1), some (.int t31.2.1), none, none, none, none] [] t31.2.2) (fun (e33 : xr_S) => J 362 [none, none, none, none, none, none, none] [] e33) hf (fun e33 hf => ?_) (fun K34 hK34 t31 rec32 hrec32 hf => ?_)
    · obtain rfl := Option.some.inj hf
      exact RR _ _ dX11_findBeds_362 rfl
    · have hrec32 : ∀ (b1 : Int32) (b2 : Int32) (b3 : xr_S), rec32 (b1, b2, b3) = some q → J 173 [some (.ref (ad 49)), some (.int b1), some (.int b2), none, none, none, none] [] b3 := fun b1 b2 b3 h => hrec32 (b1, b2, b3) h
      unfold xf_X11_findBeds_L173 at hf
      refine xr_iload_n B dX11_findBeds_173 rfl rfl ?_
      refine xr_aload_n B dX11_findBeds_174 rfl rfl ?_
      refine xr_getI B xg_X11_83 xh_49 rfl dX11_findBeds_175 ?_
      refine xr_ic_ge B (tgt := 362) dX11_findBeds_178 (by decide) hf (fun _ hf => ?_) (fun _ hf => ?_)
      · refine xr_forget B (lv2 := [none, none, none, none, none, none, none]) trivial ?_
        exact hK34 t31.2.2 hf
      · refine xr_aload_n B dX11_findBeds_181 rfl rfl ?_
        refine xr_getR B xg_X11_42 xh_49 rfl dX11_findBeds_182 ?_
        refine xr_iload_n B dX11_findBeds_185 rfl rfl ?_
        refine xr_iconst B (v := (-1)) dX11_findBeds_186 (by decide) ?_
        refine xq_iast B xh_59 dX11_findBeds_187 hf (fun s35 hf => ?_)
        refine xr_aload_n B dX11_findBeds_188 rfl rfl ?_
        refine xr_getI B xg_X11_73 xh_49 rfl dX11_findBeds_189 ?_
        refine xr_iconst B (v := 1) dX11_findBeds_192 (by decide) ?_
        refine xr_isub B dX11_findBeds_193 ?_
        refine xr_top _ hf (fun v36 hf => ?_)
        refine xr_istore_n B (lv2 := [some (.ref (ad 49)), some (.int t31.1), some (.int t31.2.1), some (.int v36), none, none, none]) dX11_findBeds_194 rfl (by decide) rfl ?_
        refine xq_loop (fun (t37 : (Int32 × xr_S)) => J 195 [some (.ref (ad 49)), some (.int t31.1), some (.int t31.2.1), some (.int t37.1), none, none, none] [] t37.2) (fun (e39 : xr_S) => J 288 [some (.ref (ad 49)), some (.int t31.1), some (.int t31.2.1), none, none, none, none] [] e39) hf (fun e39 hf => ?_) (fun K40 hK40 t37 rec38 hrec38 hf => ?_)
        · refine xr_aload_n B dX11_findBeds_288 rfl rfl ?_
          refine xr_getR B xg_X11_42 xh_49 rfl dX11_findBeds_289 ?_
          refine xr_iload_n B dX11_findBeds_292 rfl rfl ?_
          refine xr_aload_n B dX11_findBeds_293 rfl rfl ?_
          refine xr_getR B xg_X11_39 xh_49 rfl dX11_findBeds_294 ?_
          refine xr_bipush B (v := 64) dX11_findBeds_297 (by decide) ?_
          refine xr_iload_n B dX11_findBeds_299 rfl rfl ?_
          refine xr_iconst B (v := 1) dX11_findBeds_300 (by decide) ?_
          refine xr_iadd B dX11_findBeds_301 ?_
          refine xr_imul B dX11_findBeds_302 ?_
          refine xr_iload_n B dX11_findBeds_303 rfl rfl ?_
          refine xr_iadd B dX11_findBeds_304 ?_
          refine xq_iald B xh_58 dX11_findBeds_305 hf (fun v53 hf => ?_)
          refine xr_aload_n B dX11_findBeds_306 rfl rfl ?_
          refine xr_getR B xg_X11_39 xh_49 rfl dX11_findBeds_307 ?_
          refine xr_bipush B (v := 64) dX11_findBeds_310 (by decide) ?_
          refine xr_iload_n B dX11_findBeds_312 rfl rfl ?_
          refine xr_imul B dX11_findBeds_313 ?_
          refine xr_iload_n B dX11_findBeds_314 rfl rfl ?_
          refine xr_iadd B dX11_findBeds_315 ?_
          refine xq_iald B xh_58 dX11_findBeds_316 hf (fun v54 hf => ?_)
          refine xr_meet (fun (w55 : Int32) => J 330 [some (.ref (ad 49)), some (.int t31.1), some (.int t31.2.1), none, none, none, none] [.int w55, .int t31.2.1, .ref (ad 59)] e39) hf (fun w55 hf => ?_) (fun j56 hj56 hf => ?_)
          · refine xq_iast B xh_59 dX11_findBeds_330 hf (fun s57 hf => ?_)
            refine xr_iload_n B dX11_findBeds_331 rfl rfl ?_
            refine xr_aload_n B dX11_findBeds_332 rfl rfl ?_
            refine xr_getR B xg_X11_42 xh_49 rfl dX11_findBeds_333 ?_
            refine xr_iload_n B dX11_findBeds_336 rfl rfl ?_
            refine xq_iald B xh_59 dX11_findBeds_337 hf (fun v58 hf => ?_)
            refine xr_iconst B (v := (-1)) dX11_findBeds_338 (by decide) ?_
            refine xr_meet (fun (w59 : Int32) => J 354 [some (.ref (ad 49)), none, some (.int t31.2.1), none, none, none, none] [.int w59, .int t31.1] s57) hf (fun w59 hf => ?_) (fun j60 hj60 hf => ?_)
            · refine xr_ior B dX11_findBeds_354 ?_
              refine xr_top _ hf (fun v61 hf => ?_)
              refine xr_istore_n B (lv2 := [some (.ref (ad 49)), some (.int v61), some (.int t31.2.1), none, none, none, none]) dX11_findBeds_355 rfl (by decide) rfl ?_
              refine xr_iinc B (v := (t31.2.1 + 1)) (lv2 := [some (.ref (ad 49)), some (.int v61), some (.int (t31.2.1 + 1)), none, none, none, none]) dX11_findBeds_356 rfl (congrArg (t31.2.1 + ·) (by decide : Int32.ofInt (1) = 1)) (by decide) rfl ?_
              refine xr_goto B (tgt := 173) dX11_findBeds_359 (by decide) ?_
              exact hrec32 v61 (t31.2.1 + 1) s57 hf
            · refine xr_ic_ne B (tgt := 346) dX11_findBeds_339 (by decide) hf (fun _ hf => ?_) (fun _ hf => ?_)
              · refine xr_iconst B (v := 0) dX11_findBeds_342 (by decide) ?_
                refine xr_goto B (tgt := 354) dX11_findBeds_343 (by decide) ?_
                refine xr_forget B (lv2 := [some (.ref (ad 49)), none, some (.int t31.2.1), none, none, none, none]) ⟨rfl, ⟨rfl, trivial⟩⟩ ?_
                exact hj60 0 hf
              · refine xr_iconst B (v := 1) dX11_findBeds_346 (by decide) ?_
                refine xr_aload_n B dX11_findBeds_347 rfl rfl ?_
                refine xr_getR B xg_X11_42 xh_49 rfl dX11_findBeds_348 ?_
                refine xr_iload_n B dX11_findBeds_351 rfl rfl ?_
                refine xq_iald B xh_59 dX11_findBeds_352 hf (fun v63 hf => ?_)
                refine xr_ishl B dX11_findBeds_353 ?_
                refine xr_forget B (lv2 := [some (.ref (ad 49)), none, some (.int t31.2.1), none, none, none, none]) ⟨rfl, ⟨rfl, trivial⟩⟩ ?_
                exact hj60 ((1 : Int32) <<< (v63 &&& 31)) hf
          · refine xr_ic_ne B (tgt := 324) dX11_findBeds_317 (by decide) hf (fun _ hf => ?_) (fun _ hf => ?_)
            · refine xr_iconst B (v := (-1)) dX11_findBeds_320 (by decide) ?_
              refine xr_goto B (tgt := 330) dX11_findBeds_321 (by decide) ?_
              exact hj56 (-1) hf
            · refine xr_aload_n B dX11_findBeds_324 rfl rfl ?_
              refine xr_getR B xg_X11_42 xh_49 rfl dX11_findBeds_325 ?_
              refine xr_iload_n B dX11_findBeds_328 rfl rfl ?_
              refine xq_iald B xh_59 dX11_findBeds_329 hf (fun v64 hf => ?_)
              exact hj56 v64 hf
        · have hrec38 : ∀ (b1 : Int32) (b2 : xr_S), rec38 (b1, b2) = some q → J 195 [some (.ref (ad 49)), some (.int t31.1), some (.int t31.2.1), some (.int b1), none, none, none] [] b2 := fun b1 b2 h => hrec38 (b1, b2) h
          unfold xf_X11_findBeds_L195 at hf
          refine xr_iload_n B dX11_findBeds_195 rfl rfl ?_
          refine xr_if_lt B (tgt := 288) dX11_findBeds_196 (by decide) hf (fun _ hf => ?_) (fun _ hf => ?_)
          · refine xr_forget B (lv2 := [some (.ref (ad 49)), some (.int t31.1), some (.int t31.2.1), none, none, none, none]) ⟨rfl, ⟨rfl, ⟨rfl, trivial⟩⟩⟩ ?_
            exact hK40 t37.2 hf
          · refine xr_iload_n B dX11_findBeds_199 rfl rfl ?_
            refine xr_iload_n B dX11_findBeds_200 rfl rfl ?_
            refine xr_cSi B (rest := []) [.int t31.1, .int t37.1] xm_X11_has xs_X11_215 (fun q hq => xc_X11_has l D ad ca t37.2 t31.1 t37.1 q hq) rfl (by decide) rfl (Nat.le_of_ble_eq_true rfl) dX11_findBeds_201 hf (fun v41 hf => ?_)
            refine xr_meet (fun (w42 : Int32) => J 259 [some (.ref (ad 49)), some (.int t31.1), some (.int t31.2.1), some (.int t37.1), none, none, none] [.int w42] t37.2) hf (fun w42 hf => ?_) (fun j43 hj43 hf => ?_)
            · refine xr_istore B (lv2 := [some (.ref (ad 49)), some (.int t31.1), some (.int t31.2.1), some (.int t37.1), some (.int w42), none, none]) dX11_findBeds_259 (by decide) rfl ?_
              refine xr_aload_n B dX11_findBeds_261 rfl rfl ?_
              refine xr_getR B xg_X11_42 xh_49 rfl dX11_findBeds_262 ?_
              refine xr_iload_n B dX11_findBeds_265 rfl rfl ?_
              refine xr_iload B dX11_findBeds_266 rfl ?_
              refine xr_meet (fun (w44 : Int32) => J 281 [some (.ref (ad 49)), some (.int t31.1), some (.int t31.2.1), some (.int t37.1), none, none, none] [.int w44, .int t31.2.1, .ref (ad 59)] t37.2) hf (fun w44 hf => ?_) (fun j45 hj45 hf => ?_)
              · refine xq_iast B xh_59 dX11_findBeds_281 hf (fun s46 hf => ?_)
                refine xr_iinc B (v := (t37.1 + (-1))) (lv2 := [some (.ref (ad 49)), some (.int t31.1), some (.int t31.2.1), some (.int (t37.1 + (-1))), none, none, none]) dX11_findBeds_282 rfl (congrArg (t37.1 + ·) (by decide : Int32.ofInt (-1) = -1)) (by decide) rfl ?_
                refine xr_goto B (tgt := 195) dX11_findBeds_285 (by decide) ?_
                exact hrec38 (t37.1 + (-1)) s46 hf
              · refine xr_if_eq B (tgt := 275) dX11_findBeds_268 (by decide) hf (fun _ hf => ?_) (fun _ hf => ?_)
                · refine xr_aload_n B dX11_findBeds_275 rfl rfl ?_
                  refine xr_getR B xg_X11_42 xh_49 rfl dX11_findBeds_276 ?_
                  refine xr_iload_n B dX11_findBeds_279 rfl rfl ?_
                  refine xq_iald B xh_59 dX11_findBeds_280 hf (fun v48 hf => ?_)
                  refine xr_forget B (lv2 := [some (.ref (ad 49)), some (.int t31.1), some (.int t31.2.1), some (.int t37.1), none, none, none]) ⟨rfl, ⟨rfl, ⟨rfl, ⟨rfl, trivial⟩⟩⟩⟩ ?_
                  exact hj45 v48 hf
                · refine xr_iload_n B dX11_findBeds_271 rfl rfl ?_
                  refine xr_goto B (tgt := 281) dX11_findBeds_272 (by decide) ?_
                  refine xr_forget B (lv2 := [some (.ref (ad 49)), some (.int t31.1), some (.int t31.2.1), some (.int t37.1), none, none, none]) ⟨rfl, ⟨rfl, ⟨rfl, ⟨rfl, trivial⟩⟩⟩⟩ ?_
                  exact hj45 t37.1 hf
            · refine xr_if_ne B (tgt := 258) dX11_findBeds_204 (by decide) hf (fun _ hf => ?_) (fun _ hf => ?_)
              · refine xr_aload_n B dX11_findBeds_207 rfl rfl ?_
                refine xr_iload_n B dX11_findBeds_208 rfl rfl ?_
                refine xr_iload_n B dX11_findBeds_209 rfl rfl ?_
                refine xr_cVi B (rest := []) [.int t31.2.1, .int t37.1] xm_X11_mayLie xv_X11_243 (fun q hq => xc_X11_mayLie l D ad ca t37.2 t31.2.1 t37.1 q hq) xh_49 rfl rfl (by decide) rfl (Nat.le_of_ble_eq_true rfl) dX11_findBeds_210 hf (fun v49 hf => ?_)
                refine xr_if_eq B (tgt := 258) dX11_findBeds_213 (by decide) hf (fun _ hf => ?_) (fun _ hf => ?_)
                · refine xr_iconst B (v := 0) dX11_findBeds_258 (by decide) ?_
                  exact hj43 0 hf
                · refine xr_aload_n B dX11_findBeds_216 rfl rfl ?_
                  refine xr_iload_n B dX11_findBeds_217 rfl rfl ?_
                  refine xr_iload_n B dX11_findBeds_218 rfl rfl ?_
                  refine xr_cVi B (rest := []) [.int t31.2.1, .int t37.1] xm_X11_worthOf xv_X11_206 (fun q hq => xc_X11_worthOf l D ad ca t37.2 t31.2.1 t37.1 q hq) xh_49 rfl rfl (by decide) rfl (Nat.le_of_ble_eq_true rfl) dX11_findBeds_219 hf (fun v50 hf => ?_)
                  refine xr_aload_n B dX11_findBeds_222 rfl rfl ?_
                  refine xr_getR B xg_X11_39 xh_49 rfl dX11_findBeds_223 ?_
                  refine xr_bipush B (v := 64) dX11_findBeds_226 (by decide) ?_
                  refine xr_iload_n B dX11_findBeds_228 rfl rfl ?_
                  refine xr_iconst B (v := 1) dX11_findBeds_229 (by decide) ?_
                  refine xr_iadd B dX11_findBeds_230 ?_
                  refine xr_imul B dX11_findBeds_231 ?_
                  refine xr_iload_n B dX11_findBeds_232 rfl rfl ?_
                  refine xr_iconst B (v := 1) dX11_findBeds_233 (by decide) ?_
                  refine xr_iload_n B dX11_findBeds_234 rfl rfl ?_
                  refine xr_ishl B dX11_findBeds_235 ?_
                  refine xr_ior B dX11_findBeds_236 ?_
                  refine xr_iadd B dX11_findBeds_237 ?_
                  refine xq_iald B xh_58 dX11_findBeds_238 hf (fun v51 hf => ?_)
                  refine xr_iadd B dX11_findBeds_239 ?_
                  refine xr_aload_n B dX11_findBeds_240 rfl rfl ?_
                  refine xr_getR B xg_X11_39 xh_49 rfl dX11_findBeds_241 ?_
                  refine xr_bipush B (v := 64) dX11_findBeds_244 (by decide) ?_
                  refine xr_iload_n B dX11_findBeds_246 rfl rfl ?_
                  refine xr_imul B dX11_findBeds_247 ?_
                  refine xr_iload_n B dX11_findBeds_248 rfl rfl ?_
                  refine xr_iadd B dX11_findBeds_249 ?_
                  refine xq_iald B xh_58 dX11_findBeds_250 hf (fun v52 hf => ?_)
                  refine xr_ic_ne B (tgt := 258) dX11_findBeds_251 (by decide) hf (fun _ hf => ?_) (fun _ hf => ?_)
                  · refine xr_iconst B (v := 1) dX11_findBeds_254 (by decide) ?_
                    refine xr_goto B (tgt := 259) dX11_findBeds_255 (by decide) ?_
                    exact hj43 1 hf
                  · refine xr_iconst B (v := 0) dX11_findBeds_258 (by decide) ?_
                    exact hj43 0 hf
              · refine xr_iconst B (v := 0) dX11_findBeds_258 (by decide) ?_
                exact hj43 0 hf
  · have hrec3 : ∀ (b1 : Int32) (b2 : xr_S), rec3 (b1, b2) = some q → J 5 [some (.ref (ad 49)), some (.int b1), none, none, none, none, none] [] b2 := fun b1 b2 h => hrec3 (b1, b2) h
    unfold xf_X11_findBeds_L5 at hf
    refine xr_iload_n B dX11_findBeds_5 rfl rfl ?_
    refine xr_if_lt B (tgt := 169) dX11_findBeds_6 (by decide) hf (fun _ hf => ?_) (fun _ hf => ?_)
    · refine xr_forget B (lv2 := [some (.ref (ad 49)), none, none, none, none, none, none]) ⟨rfl, trivial⟩ ?_
      exact hK5 t2.2 hf
    · refine xr_iconst B (v := 0) dX11_findBeds_9 (by decide) ?_
      refine xr_istore_n B (lv2 := [some (.ref (ad 49)), some (.int t2.1), some (.int 0), none, none, none, none]) dX11_findBeds_10 rfl (by decide) rfl ?_
      refine xq_loop (fun (t6 : (Int32 × xr_S)) => J 11 [some (.ref (ad 49)), some (.int t2.1), some (.int t6.1), none, none, none, none] [] t6.2) (fun (e8 : xr_S) => J 163 [some (.ref (ad 49)), some (.int t2.1), none, none, none, none, none] [] e8) hf (fun e8 hf => ?_) (fun K9 hK9 t6 rec7 hrec7 hf => ?_)
      · refine xr_iinc B (v := (t2.1 + (-1))) (lv2 := [some (.ref (ad 49)), some (.int (t2.1 + (-1))), none, none, none, none, none]) dX11_findBeds_163 rfl (congrArg (t2.1 + ·) (by decide : Int32.ofInt (-1) = -1)) (by decide) rfl ?_
        refine xr_goto B (tgt := 5) dX11_findBeds_166 (by decide) ?_
        exact hrec3 (t2.1 + (-1)) e8 hf
      · have hrec7 : ∀ (b1 : Int32) (b2 : xr_S), rec7 (b1, b2) = some q → J 11 [some (.ref (ad 49)), some (.int t2.1), some (.int b1), none, none, none, none] [] b2 := fun b1 b2 h => hrec7 (b1, b2) h
        unfold xf_X11_findBeds_L11 at hf
        refine xr_iload_n B dX11_findBeds_11 rfl rfl ?_
        refine xr_bipush B (v := 64) dX11_findBeds_12 (by decide) ?_
        refine xr_ic_ge B (tgt := 163) dX11_findBeds_14 (by decide) hf (fun _ hf => ?_) (fun _ hf => ?_)
        · refine xr_forget B (lv2 := [some (.ref (ad 49)), some (.int t2.1), none, none, none, none, none]) ⟨rfl, ⟨rfl, trivial⟩⟩ ?_
          exact hK9 t6.2 hf
        · refine xr_iload_n B dX11_findBeds_17 rfl rfl ?_
          refine xr_aload_n B dX11_findBeds_18 rfl rfl ?_
          refine xr_getI B xg_X11_83 xh_49 rfl dX11_findBeds_19 ?_
          refine xr_meet (fun (w10 : Int32) => J 42 [some (.ref (ad 49)), some (.int t2.1), some (.int t6.1), none, none, none, none] [.int w10] t6.2) hf (fun w10 hf => ?_) (fun j11 hj11 hf => ?_)
          · refine xr_istore_n B (lv2 := [some (.ref (ad 49)), some (.int t2.1), some (.int t6.1), some (.int w10), none, none, none]) dX11_findBeds_42 rfl (by decide) rfl ?_
            refine xr_iconst B (v := 0) dX11_findBeds_43 (by decide) ?_
            refine xr_istore B (lv2 := [some (.ref (ad 49)), some (.int t2.1), some (.int t6.1), some (.int w10), some (.int 0), none, none]) dX11_findBeds_44 (by decide) rfl ?_
            refine xq_loop (fun (t12 : (Int32 × Int32)) => J 46 [some (.ref (ad 49)), some (.int t2.1), some (.int t6.1), some (.int t12.1), some (.int t12.2), none, none] [] t6.2) (fun (e14 : Int32) => J 145 [some (.ref (ad 49)), some (.int t2.1), some (.int t6.1), some (.int e14), none, none, none] [] t6.2) hf (fun e14 hf => ?_) (fun K15 hK15 t12 rec13 hrec13 hf => ?_)
            · refine xr_aload_n B dX11_findBeds_145 rfl rfl ?_
              refine xr_getR B xg_X11_39 xh_49 rfl dX11_findBeds_146 ?_
              refine xr_bipush B (v := 64) dX11_findBeds_149 (by decide) ?_
              refine xr_iload_n B dX11_findBeds_151 rfl rfl ?_
              refine xr_imul B dX11_findBeds_152 ?_
              refine xr_iload_n B dX11_findBeds_153 rfl rfl ?_
              refine xr_iadd B dX11_findBeds_154 ?_
              refine xr_iload_n B dX11_findBeds_155 rfl rfl ?_
              refine xq_iast B xh_58 dX11_findBeds_156 hf (fun s27 hf => ?_)
              refine xr_iinc B (v := (t6.1 + 1)) (lv2 := [some (.ref (ad 49)), some (.int t2.1), some (.int (t6.1 + 1)), some (.int e14), none, none, none]) dX11_findBeds_157 rfl (congrArg (t6.1 + ·) (by decide : Int32.ofInt (1) = 1)) (by decide) rfl ?_
              refine xr_goto B (tgt := 11) dX11_findBeds_160 (by decide) ?_
              refine xr_forget B (lv2 := [some (.ref (ad 49)), some (.int t2.1), some (.int (t6.1 + 1)), none, none, none, none]) ⟨rfl, ⟨rfl, ⟨rfl, trivial⟩⟩⟩ ?_
              exact hrec7 (t6.1 + 1) s27 hf
            · have hrec13 : ∀ (b1 : Int32) (b2 : Int32), rec13 (b1, b2) = some q → J 46 [some (.ref (ad 49)), some (.int t2.1), some (.int t6.1), some (.int b1), some (.int b2), none, none] [] t6.2 := fun b1 b2 h => hrec13 (b1, b2) h
              unfold xf_X11_findBeds_L46 at hf
              refine xr_iload B dX11_findBeds_46 rfl ?_
              refine xr_aload_n B dX11_findBeds_48 rfl rfl ?_
              refine xr_getI B xg_X11_73 xh_49 rfl dX11_findBeds_49 ?_
              refine xr_ic_ge B (tgt := 145) dX11_findBeds_52 (by decide) hf (fun _ hf => ?_) (fun _ hf => ?_)
              · refine xr_forget B (lv2 := [some (.ref (ad 49)), some (.int t2.1), some (.int t6.1), some (.int t12.1), none, none, none]) ⟨rfl, ⟨rfl, ⟨rfl, ⟨rfl, trivial⟩⟩⟩⟩ ?_
                exact hK15 t12.1 hf
              · refine xr_iload_n B dX11_findBeds_55 rfl rfl ?_
                refine xr_aload_n B dX11_findBeds_56 rfl rfl ?_
                refine xr_getI B xg_X11_83 xh_49 rfl dX11_findBeds_57 ?_
                refine xr_ic_ge B (tgt := 145) dX11_findBeds_60 (by decide) hf (fun _ hf => ?_) (fun _ hf => ?_)
                · refine xr_forget B (lv2 := [some (.ref (ad 49)), some (.int t2.1), some (.int t6.1), some (.int t12.1), none, none, none]) ⟨rfl, ⟨rfl, ⟨rfl, ⟨rfl, trivial⟩⟩⟩⟩ ?_
                  exact hK15 t12.1 hf
                · refine xr_iload_n B dX11_findBeds_63 rfl rfl ?_
                  refine xr_iload B dX11_findBeds_64 rfl ?_
                  refine xr_cSi B (rest := []) [.int t6.1, .int t12.2] xm_X11_has xs_X11_215 (fun q hq => xc_X11_has l D ad ca t6.2 t6.1 t12.2 q hq) rfl (by decide) rfl (Nat.le_of_ble_eq_true rfl) dX11_findBeds_66 hf (fun v16 hf => ?_)
                  refine xr_meet (fun (w17 : Int32) => J 87 [some (.ref (ad 49)), some (.int t2.1), some (.int t6.1), some (.int t12.1), some (.int t12.2), none, none] [.int w17] t6.2) hf (fun w17 hf => ?_) (fun j18 hj18 hf => ?_)
                  · refine xr_istore B (lv2 := [some (.ref (ad 49)), some (.int t2.1), some (.int t6.1), some (.int t12.1), some (.int t12.2), some (.int w17), none]) dX11_findBeds_87 (by decide) rfl ?_
                    refine xr_iload B dX11_findBeds_89 rfl ?_
                    refine xr_meet (fun (w19 : Int32) => J 124 [some (.ref (ad 49)), some (.int t2.1), some (.int t6.1), some (.int t12.1), some (.int t12.2), none, none] [.int w19] t6.2) hf (fun w19 hf => ?_) (fun j20 hj20 hf => ?_)
                    · refine xr_istore B (lv2 := [some (.ref (ad 49)), some (.int t2.1), some (.int t6.1), some (.int t12.1), some (.int t12.2), none, some (.int w19)]) dX11_findBeds_124 (by decide) rfl ?_
                      refine xr_iload B dX11_findBeds_126 rfl ?_
                      refine xr_iload_n B dX11_findBeds_128 rfl rfl ?_
                      refine xr_meet (fun (w21 : Int32) => J 138 [some (.ref (ad 49)), some (.int t2.1), some (.int t6.1), none, some (.int t12.2), none, none] [.int w21] t6.2) hf (fun w21 hf => ?_) (fun j22 hj22 hf => ?_)
                      · refine xr_istore_n B (lv2 := [some (.ref (ad 49)), some (.int t2.1), some (.int t6.1), some (.int w21), some (.int t12.2), none, none]) dX11_findBeds_138 rfl (by decide) rfl ?_
                        refine xr_iinc B (v := (t12.2 + 1)) (lv2 := [some (.ref (ad 49)), some (.int t2.1), some (.int t6.1), some (.int w21), some (.int (t12.2 + 1)), none, none]) dX11_findBeds_139 rfl (congrArg (t12.2 + ·) (by decide : Int32.ofInt (1) = 1)) (by decide) rfl ?_
                        refine xr_goto B (tgt := 46) dX11_findBeds_142 (by decide) ?_
                        exact hrec13 w21 (t12.2 + 1) hf
                      · refine xr_ic_le B (tgt := 137) dX11_findBeds_129 (by decide) hf (fun _ hf => ?_) (fun _ hf => ?_)
                        · refine xr_iload_n B dX11_findBeds_137 rfl rfl ?_
                          refine xr_forget B (lv2 := [some (.ref (ad 49)), some (.int t2.1), some (.int t6.1), none, some (.int t12.2), none, none]) ⟨rfl, ⟨rfl, ⟨rfl, ⟨rfl, trivial⟩⟩⟩⟩ ?_
                          exact hj22 t12.1 hf
                        · refine xr_iload B dX11_findBeds_132 rfl ?_
                          refine xr_goto B (tgt := 138) dX11_findBeds_134 (by decide) ?_
                          refine xr_forget B (lv2 := [some (.ref (ad 49)), some (.int t2.1), some (.int t6.1), none, some (.int t12.2), none, none]) ⟨rfl, ⟨rfl, ⟨rfl, ⟨rfl, trivial⟩⟩⟩⟩ ?_
                          exact hj22 w19 hf
                    · refine xr_if_eq B (tgt := 123) dX11_findBeds_91 (by decide) hf (fun _ hf => ?_) (fun _ hf => ?_)
                      · refine xr_iconst B (v := 0) dX11_findBeds_123 (by decide) ?_
                        refine xr_forget B (lv2 := [some (.ref (ad 49)), some (.int t2.1), some (.int t6.1), some (.int t12.1), some (.int t12.2), none, none]) ⟨rfl, ⟨rfl, ⟨rfl, ⟨rfl, ⟨rfl, trivial⟩⟩⟩⟩⟩ ?_
                        exact hj20 0 hf
                      · refine xr_aload_n B dX11_findBeds_94 rfl rfl ?_
                        refine xr_iload_n B dX11_findBeds_95 rfl rfl ?_
                        refine xr_iload B dX11_findBeds_96 rfl ?_
                        refine xr_cVi B (rest := []) [.int t2.1, .int t12.2] xm_X11_worthOf xv_X11_206 (fun q hq => xc_X11_worthOf l D ad ca t6.2 t2.1 t12.2 q hq) xh_49 rfl rfl (by decide) rfl (Nat.le_of_ble_eq_true rfl) dX11_findBeds_98 hf (fun v24 hf => ?_)
                        refine xr_aload_n B dX11_findBeds_101 rfl rfl ?_
                        refine xr_getR B xg_X11_39 xh_49 rfl dX11_findBeds_102 ?_
                        refine xr_bipush B (v := 64) dX11_findBeds_105 (by decide) ?_
                        refine xr_iload_n B dX11_findBeds_107 rfl rfl ?_
                        refine xr_iconst B (v := 1) dX11_findBeds_108 (by decide) ?_
                        refine xr_iadd B dX11_findBeds_109 ?_
                        refine xr_imul B dX11_findBeds_110 ?_
                        refine xr_iload_n B dX11_findBeds_111 rfl rfl ?_
                        refine xr_iconst B (v := 1) dX11_findBeds_112 (by decide) ?_
                        refine xr_iload B dX11_findBeds_113 rfl ?_
                        refine xr_ishl B dX11_findBeds_115 ?_
                        refine xr_ior B dX11_findBeds_116 ?_
                        refine xr_iadd B dX11_findBeds_117 ?_
                        refine xq_iald B xh_58 dX11_findBeds_118 hf (fun v25 hf => ?_)
                        refine xr_iadd B dX11_findBeds_119 ?_
                        refine xr_goto B (tgt := 124) dX11_findBeds_120 (by decide) ?_
                        refine xr_forget B (lv2 := [some (.ref (ad 49)), some (.int t2.1), some (.int t6.1), some (.int t12.1), some (.int t12.2), none, none]) ⟨rfl, ⟨rfl, ⟨rfl, ⟨rfl, ⟨rfl, trivial⟩⟩⟩⟩⟩ ?_
                        exact hj20 (v24 + v25) hf
                  · refine xr_if_ne B (tgt := 86) dX11_findBeds_69 (by decide) hf (fun _ hf => ?_) (fun _ hf => ?_)
                    · refine xr_aload_n B dX11_findBeds_72 rfl rfl ?_
                      refine xr_iload_n B dX11_findBeds_73 rfl rfl ?_
                      refine xr_iload B dX11_findBeds_74 rfl ?_
                      refine xr_cVi B (rest := []) [.int t2.1, .int t12.2] xm_X11_mayLie xv_X11_243 (fun q hq => xc_X11_mayLie l D ad ca t6.2 t2.1 t12.2 q hq) xh_49 rfl rfl (by decide) rfl (Nat.le_of_ble_eq_true rfl) dX11_findBeds_76 hf (fun v26 hf => ?_)
                      refine xr_if_eq B (tgt := 86) dX11_findBeds_79 (by decide) hf (fun _ hf => ?_) (fun _ hf => ?_)
                      · refine xr_iconst B (v := 0) dX11_findBeds_86 (by decide) ?_
                        exact hj18 0 hf
                      · refine xr_iconst B (v := 1) dX11_findBeds_82 (by decide) ?_
                        refine xr_goto B (tgt := 87) dX11_findBeds_83 (by decide) ?_
                        exact hj18 1 hf
                    · refine xr_iconst B (v := 0) dX11_findBeds_86 (by decide) ?_
                      exact hj18 0 hf
          · refine xr_ic_ne B (tgt := 29) dX11_findBeds_22 (by decide) hf (fun _ hf => ?_) (fun _ hf => ?_)
            · refine xr_iconst B (v := 0) dX11_findBeds_25 (by decide) ?_
              refine xr_goto B (tgt := 42) dX11_findBeds_26 (by decide) ?_
              exact hj11 0 hf
            · refine xr_aload_n B dX11_findBeds_29 rfl rfl ?_
              refine xr_getR B xg_X11_39 xh_49 rfl dX11_findBeds_30 ?_
              refine xr_bipush B (v := 64) dX11_findBeds_33 (by decide) ?_
              refine xr_iload_n B dX11_findBeds_35 rfl rfl ?_
              refine xr_iconst B (v := 1) dX11_findBeds_36 (by decide) ?_
              refine xr_iadd B dX11_findBeds_37 ?_
              refine xr_imul B dX11_findBeds_38 ?_
              refine xr_iload_n B dX11_findBeds_39 rfl rfl ?_
              refine xr_iadd B dX11_findBeds_40 ?_
              refine xq_iald B xh_58 dX11_findBeds_41 hf (fun v29 hf => ?_)
              exact hj11 v29 hf

noncomputable def xf_X11_beds (σ : xr_S) (a1 : Int32) : Option (Int32 × xr_S) := xr_jn (fun (w1 : Unit) => (xf_X11_findBeds σ).bind (fun s3 => if a1 = (-1) then (xr_ld s3 58 512 0 (fun v4 => some (v4, s3))) else (xr_ld s3 59 7 a1 (fun v5 => some (v5, s3))))) (fun j2 => if a1 = (-1) then (j2 ()) else ((xf_X11_isLoaf σ a1).bind (fun v6 => if v6 = 0 then (some ((-1000000001), σ)) else (j2 ()))))
set_option maxRecDepth 100000 in
set_option maxHeartbeats 4000000 in
theorem xc_X11_beds (l : Launch) (D : va_G) (ad : Nat → Nat) (ca : Nat → ClassId) (σ : xr_S) (a1 : Int32) (q : (Int32 × xr_S)) (hf : xf_X11_beds σ a1 = some q) : xr_M l D ad ca yX11_beds cX11_beds 2 (some .int) 4 95 [.ref (ad 49), .int a1] σ (some (.int q.1)) q.2 := by
  refine xr_openI [some (.ref (ad 49)), some (.int a1)] xm_X11_beds (Nat.le_of_ble_eq_true rfl) rfl (fun J B RR => ?_)
  unfold xf_X11_beds at hf
  refine xr_iload_n B dX11_beds_0 rfl rfl ?_
  refine xr_iconst B (v := (-1)) dX11_beds_1 (by decide) ?_
  refine xr_meet (fun (w1 : Unit) => J 16 [some (.ref (ad 49)), some (.int a1)] [] σ) hf (fun w1 hf => ?_) (fun j2 hj2 hf => ?_)
  · refine xr_aload_n B dX11_beds_16 rfl rfl ?_
    refine xr_cVv B (rest := []) [] xm_X11_findBeds xv_X11_246 (fun q hq => xc_X11_findBeds l D ad ca σ q hq) xh_49 rfl rfl (by decide) rfl (Nat.le_of_ble_eq_true rfl) dX11_beds_17 hf (fun s3 hf => ?_)
    refine xr_iload_n B dX11_beds_20 rfl rfl ?_
    refine xr_iconst B (v := (-1)) dX11_beds_21 (by decide) ?_
    refine xr_ic_ne B (tgt := 34) dX11_beds_22 (by decide) hf (fun _ hf => ?_) (fun _ hf => ?_)
    · refine xr_aload_n B dX11_beds_25 rfl rfl ?_
      refine xr_getR B xg_X11_39 xh_49 rfl dX11_beds_26 ?_
      refine xr_iconst B (v := 0) dX11_beds_29 (by decide) ?_
      refine xq_iald B xh_58 dX11_beds_30 hf (fun v4 hf => ?_)
      refine xr_goto B (tgt := 40) dX11_beds_31 (by decide) ?_
      obtain rfl := Option.some.inj hf
      exact RR _ _ _ dX11_beds_40 rfl
    · refine xr_aload_n B dX11_beds_34 rfl rfl ?_
      refine xr_getR B xg_X11_42 xh_49 rfl dX11_beds_35 ?_
      refine xr_iload_n B dX11_beds_38 rfl rfl ?_
      refine xq_iald B xh_59 dX11_beds_39 hf (fun v5 hf => ?_)
      obtain rfl := Option.some.inj hf
      exact RR _ _ _ dX11_beds_40 rfl
  · refine xr_ic_eq B (tgt := 16) dX11_beds_2 (by decide) hf (fun _ hf => ?_) (fun _ hf => ?_)
    · exact hj2 () hf
    · refine xr_aload_n B dX11_beds_5 rfl rfl ?_
      refine xr_iload_n B dX11_beds_6 rfl rfl ?_
      refine xr_cVi B (rest := []) [.int a1] xm_X11_isLoaf xv_X11_200 (fun q hq => xc_X11_isLoaf l D ad ca σ a1 q hq) xh_49 rfl rfl (by decide) rfl (Nat.le_of_ble_eq_true rfl) dX11_beds_7 hf (fun v6 hf => ?_)
      refine xr_if_ne B (tgt := 16) dX11_beds_10 (by decide) hf (fun _ hf => ?_) (fun _ hf => ?_)
      · refine xr_ldc B xk_X11_192 dX11_beds_13 ?_
        obtain rfl := Option.some.inj hf
        exact RR _ _ _ dX11_beds_15 rfl
      · exact hj2 () hf

noncomputable def xf_X11_feedings_L28 (a1 : Int32) (a2 : Int32) (K7 : xr_S → Option (Int32 × xr_S)) (t4 : (Int32 × xr_S)) (rec5 : (Int32 × xr_S) → Option (Int32 × xr_S)) : Option (Int32 × xr_S) := if 9 < t4.1 then (K7 t4.2) else ((xf_X11_likeliestOf t4.2 55 a1).bind (fun v8 => if v8 = a2 then (some (t4.1, t4.2)) else ((xf_X11_grows t4.2 55 a1 a2).bind (fun s9 => rec5 ((t4.1 + 1), s9)))))
noncomputable def xf_X11_feedings (σ : xr_S) (a1 : Int32) (a2 : Int32) : Option (Int32 × xr_S) := (xf_X11_isSleeper σ a1).bind (fun v1 => if v1 = 0 then (some ((-1000000001), σ)) else ((xf_X11_isDream σ a2).bind (fun v2 => if v2 = 0 then (some ((-1000000001), σ)) else ((xf_X11_copy σ 0 55).bind (fun s3 => xr_lw (xf_X11_feedings_L28 a1 a2 (fun (e6 : xr_S) => some ((-1), e6))) (0, s3))))))
set_option maxRecDepth 100000 in
set_option maxHeartbeats 4000000 in
theorem xc_X11_feedings (l : Launch) (D : va_G) (ad : Nat → Nat) (ca : Nat → ClassId) (σ : xr_S) (a1 : Int32) (a2 : Int32) (q : (Int32 × xr_S)) (hf : xf_X11_feedings σ a1 a2 = some q) : xr_M l D ad ca yX11_feedings cX11_feedings 4 (some .int) 2 47 [.ref (ad 49), .int a1, .int a2] σ (some (.int q.1)) q.2 := by
  refine xr_openI [some (.ref (ad 49)), some (.int a1), some (.int a2), none] xm_X11_feedings (Nat.le_of_ble_eq_true rfl) rfl (fun J B RR => ?_)
  unfold xf_X11_feedings at hf
  refine xr_aload_n B dX11_feedings_0 rfl rfl ?_
  refine xr_iload_n B dX11_feedings_1 rfl rfl ?_
  refine xr_cVi B (rest := []) [.int a1] xm_X11_isSleeper xv_X11_186 (fun q hq => xc_X11_isSleeper l D ad ca σ a1 q hq) xh_49 rfl rfl (by decide) rfl (Nat.le_of_ble_eq_true rfl) dX11_feedings_2 hf (fun v1 hf => ?_)
  refine xr_if_eq B (tgt := 16) dX11_feedings_5 (by decide) hf (fun _ hf => ?_) (fun _ hf => ?_)
  · refine xr_ldc B xk_X11_192 dX11_feedings_16 ?_
    obtain rfl := Option.some.inj hf
    exact RR _ _ _ dX11_feedings_18 rfl
  · refine xr_aload_n B dX11_feedings_8 rfl rfl ?_
    refine xr_iload_n B dX11_feedings_9 rfl rfl ?_
    refine xr_cVi B (rest := []) [.int a2] xm_X11_isDream xv_X11_189 (fun q hq => xc_X11_isDream l D ad ca σ a2 q hq) xh_49 rfl rfl (by decide) rfl (Nat.le_of_ble_eq_true rfl) dX11_feedings_10 hf (fun v2 hf => ?_)
    refine xr_if_ne B (tgt := 19) dX11_feedings_13 (by decide) hf (fun _ hf => ?_) (fun _ hf => ?_)
    · refine xr_ldc B xk_X11_192 dX11_feedings_16 ?_
      obtain rfl := Option.some.inj hf
      exact RR _ _ _ dX11_feedings_18 rfl
    · refine xr_aload_n B dX11_feedings_19 rfl rfl ?_
      refine xr_iconst B (v := 0) dX11_feedings_20 (by decide) ?_
      refine xr_bipush B (v := 55) dX11_feedings_21 (by decide) ?_
      refine xr_cVv B (rest := []) [.int 0, .int 55] xm_X11_copy xv_X11_249 (fun q hq => xc_X11_copy l D ad ca σ 0 55 q hq) xh_49 rfl rfl (by decide) rfl (Nat.le_of_ble_eq_true rfl) dX11_feedings_23 hf (fun s3 hf => ?_)
      refine xr_iconst B (v := 0) dX11_feedings_26 (by decide) ?_
      refine xr_istore_n B (lv2 := [some (.ref (ad 49)), some (.int a1), some (.int a2), some (.int 0)]) dX11_feedings_27 rfl (by decide) rfl ?_
      refine xq_loop (fun (t4 : (Int32 × xr_S)) => J 28 [some (.ref (ad 49)), some (.int a1), some (.int a2), some (.int t4.1)] [] t4.2) (fun (e6 : xr_S) => J 61 [none, none, none, none] [] e6) hf (fun e6 hf => ?_) (fun K7 hK7 t4 rec5 hrec5 hf => ?_)
      · refine xr_iconst B (v := (-1)) dX11_feedings_61 (by decide) ?_
        obtain rfl := Option.some.inj hf
        exact RR _ _ _ dX11_feedings_62 rfl
      · have hrec5 : ∀ (b1 : Int32) (b2 : xr_S), rec5 (b1, b2) = some q → J 28 [some (.ref (ad 49)), some (.int a1), some (.int a2), some (.int b1)] [] b2 := fun b1 b2 h => hrec5 (b1, b2) h
        unfold xf_X11_feedings_L28 at hf
        refine xr_iload_n B dX11_feedings_28 rfl rfl ?_
        refine xr_bipush B (v := 9) dX11_feedings_29 (by decide) ?_
        refine xr_ic_gt B (tgt := 61) dX11_feedings_31 (by decide) hf (fun _ hf => ?_) (fun _ hf => ?_)
        · refine xr_forget B (lv2 := [none, none, none, none]) trivial ?_
          exact hK7 t4.2 hf
        · refine xr_aload_n B dX11_feedings_34 rfl rfl ?_
          refine xr_bipush B (v := 55) dX11_feedings_35 (by decide) ?_
          refine xr_iload_n B dX11_feedings_37 rfl rfl ?_
          refine xr_cVi B (rest := []) [.int 55, .int a1] xm_X11_likeliestOf xv_X11_197 (fun q hq => xc_X11_likeliestOf l D ad ca t4.2 55 a1 q hq) xh_49 rfl rfl (by decide) rfl (Nat.le_of_ble_eq_true rfl) dX11_feedings_38 hf (fun v8 hf => ?_)
          refine xr_iload_n B dX11_feedings_41 rfl rfl ?_
          refine xr_ic_ne B (tgt := 47) dX11_feedings_42 (by decide) hf (fun _ hf => ?_) (fun _ hf => ?_)
          · refine xr_iload_n B dX11_feedings_45 rfl rfl ?_
            obtain rfl := Option.some.inj hf
            exact RR _ _ _ dX11_feedings_46 rfl
          · refine xr_aload_n B dX11_feedings_47 rfl rfl ?_
            refine xr_bipush B (v := 55) dX11_feedings_48 (by decide) ?_
            refine xr_iload_n B dX11_feedings_50 rfl rfl ?_
            refine xr_iload_n B dX11_feedings_51 rfl rfl ?_
            refine xr_cVv B (rest := []) [.int 55, .int a1, .int a2] xm_X11_grows xv_X11_238 (fun q hq => xc_X11_grows l D ad ca t4.2 55 a1 a2 q hq) xh_49 rfl rfl (by decide) rfl (Nat.le_of_ble_eq_true rfl) dX11_feedings_52 hf (fun s9 hf => ?_)
            refine xr_iinc B (v := (t4.1 + 1)) (lv2 := [some (.ref (ad 49)), some (.int a1), some (.int a2), some (.int (t4.1 + 1))]) dX11_feedings_55 rfl (congrArg (t4.1 + ·) (by decide : Int32.ofInt (1) = 1)) (by decide) rfl ?_
            refine xr_goto B (tgt := 28) dX11_feedings_58 (by decide) ?_
            exact hrec5 (t4.1 + 1) s9 hf

noncomputable def xf_X11_foretells_L4 (a1 : Int32) (K4 : xr_S → Option (Int32 × xr_S)) (t1 : (Int32 × xr_S)) (rec2 : (Int32 × xr_S) → Option (Int32 × xr_S)) : Option (Int32 × xr_S) := if (t1.2.1 49 5) ≤ t1.1 then (K4 t1.2) else (xr_ld t1.2 59 7 t1.1 (fun v5 => xr_jn (fun (w6 : Int32) => xr_jn (fun (w8 : Int32) => xr_st t1.2 60 7 t1.1 w8 (fun s10 => rec2 ((t1.1 + 1), s10))) (fun j9 => if w6 = 0 then (j9 (-1)) else (xr_ld t1.2 59 7 t1.1 (fun v12 => (xf_X11_likeliestOf t1.2 55 v12).bind (fun v13 => j9 v13))))) (fun j7 => if v5 = (-1) then (j7 0) else (xr_ld t1.2 59 7 t1.1 (fun v14 => (xf_X11_has t1.2 a1 v14).bind (fun v15 => if v15 = 0 then (j7 1) else (j7 0)))))))
noncomputable def xf_X11_foretells_L77  (K19 : (Int32 × xr_S) → Option (Int32 × xr_S)) (t16 : (Int32 × Int32 × xr_S)) (rec17 : (Int32 × Int32 × xr_S) → Option (Int32 × xr_S)) : Option (Int32 × xr_S) := if (t16.2.2.1 49 5) ≤ t16.2.1 then (K19 (t16.1, t16.2.2)) else (xr_ld t16.2.2 60 7 t16.2.1 (fun v20 => xr_jn (fun (w21 : (Int32 × xr_S)) => rec17 (w21.1, (t16.2.1 + 1), w21.2)) (fun j22 => if v20 = (-1) then (j22 (t16.1, t16.2.2)) else (xr_ld t16.2.2 52 7 t16.2.1 (fun v24 => xr_ld t16.2.2 60 7 t16.2.1 (fun v25 => (xf_X11_weightOf t16.2.2 55 v24 v25).bind (fun v26 => xr_ld t16.2.2 52 7 t16.2.1 (fun v27 => xr_ld t16.2.2 60 7 t16.2.1 (fun v28 => (xf_X11_grows t16.2.2 55 v27 v28).bind (fun s29 => xr_jn (fun (w30 : Int32) => j22 (w30, s29)) (fun j31 => if t16.1 = 0 then (xr_ld s29 52 7 t16.2.1 (fun v32 => xr_ld s29 60 7 t16.2.1 (fun v33 => (xf_X11_weightOf s29 55 v32 v33).bind (fun v34 => if v26 = v34 then (j31 0) else (j31 1))))) else (j31 1))))))))))))
noncomputable def xf_X11_foretells (σ : xr_S) (a1 : Int32) : Option (Int32 × xr_S) := xr_lw (xf_X11_foretells_L4 a1 (fun (e3 : xr_S) => xr_lw (xf_X11_foretells_L77 (fun (e18 : (Int32 × xr_S)) => xr_zb e18.1 (some (e18.1, e18.2)))) (0, 0, e3))) (0, σ)
set_option maxRecDepth 100000 in
set_option maxHeartbeats 4000000 in
theorem xc_X11_foretells (l : Launch) (D : va_G) (ad : Nat → Nat) (ca : Nat → ClassId) (σ : xr_S) (a1 : Int32) (q : (Int32 × xr_S)) (hf : xf_X11_foretells σ a1 = some q) : xr_M l D ad ca yX11_foretells cX11_foretells 5 (some .boolean) 2 47 [.ref (ad 49), .int a1] σ (some (.int q.1)) q.2 := by
  refine xr_openZ [some (.ref (ad 49)), some (.int a1), none, none, none] xm_X11_foretells (Nat.le_of_ble_eq_true rfl) rfl (fun J B RR => ?_)
  unfold xf_X11_foretells at hf
  refine xr_iconst B (v := 0) dX11_foretells_0 (by decide) ?_
  refine xr_istore_n B (lv2 := [some (.ref (ad 49)), some (.int a1), some (.int 0), none, none]) dX11_foretells_1 rfl (by decide) rfl ?_
  refine xr_iconst B (v := 0) dX11_foretells_2 (by decide) ?_
  refine xr_istore_n B (lv2 := [some (.ref (ad 49)), some (.int a1), some (.int 0), some (.int 0), none]) dX11_foretells_3 rfl (by decide) rfl ?_
  refine xq_loop (fun (t1 : (Int32 × xr_S)) => J 4 [some (.ref (ad 49)), some (.int a1), some (.int 0), some (.int t1.1), none] [] t1.2) (fun (e3 : xr_S) => J 75 [some (.ref (ad 49)), none, some (.int 0), none, none] [] e3) hf (fun e3 hf => ?_) (fun K4 hK4 t1 rec2 hrec2 hf => ?_)
  · refine xr_iconst B (v := 0) dX11_foretells_75 (by decide) ?_
    refine xr_istore_n B (lv2 := [some (.ref (ad 49)), none, some (.int 0), some (.int 0), none]) dX11_foretells_76 rfl (by decide) rfl ?_
    refine xq_loop (fun (t16 : (Int32 × Int32 × xr_S)) => J 77 [some (.ref (ad 49)), none, some (.int t16.1), some (.int t16.2.1), none] [] t16.2.2) (fun (e18 : (Int32 × xr_S)) => J 172 [none, none, some (.int e18.1), none, none] [] e18.2) hf (fun e18 hf => ?_) (fun K19 hK19 t16 rec17 hrec17 hf => ?_)
    · refine xr_iload_n B dX11_foretells_172 rfl rfl ?_
      obtain ⟨hz, hf⟩ := xq_zb hf
      obtain rfl := Option.some.inj hf
      exact RR _ _ _ hz dX11_foretells_173 rfl
    · have hrec17 : ∀ (b1 : Int32) (b2 : Int32) (b3 : xr_S), rec17 (b1, b2, b3) = some q → J 77 [some (.ref (ad 49)), none, some (.int b1), some (.int b2), none] [] b3 := fun b1 b2 b3 h => hrec17 (b1, b2, b3) h
      have hK19 : ∀ (b1 : Int32) (b2 : xr_S), K19 (b1, b2) = some q → J 172 [none, none, some (.int b1), none, none] [] b2 := fun b1 b2 h => hK19 (b1, b2) h
      unfold xf_X11_foretells_L77 at hf
      refine xr_iload_n B dX11_foretells_77 rfl rfl ?_
      refine xr_aload_n B dX11_foretells_78 rfl rfl ?_
      refine xr_getI B xg_X11_83 xh_49 rfl dX11_foretells_79 ?_
      refine xr_ic_ge B (tgt := 172) dX11_foretells_82 (by decide) hf (fun _ hf => ?_) (fun _ hf => ?_)
      · refine xr_forget B (lv2 := [none, none, some (.int t16.1), none, none]) ⟨rfl, trivial⟩ ?_
        exact hK19 t16.1 t16.2.2 hf
      · refine xr_aload_n B dX11_foretells_85 rfl rfl ?_
        refine xr_getR B xg_X11_45 xh_49 rfl dX11_foretells_86 ?_
        refine xr_iload_n B dX11_foretells_89 rfl rfl ?_
        refine xq_iald B xh_60 dX11_foretells_90 hf (fun v20 hf => ?_)
        refine xr_iconst B (v := (-1)) dX11_foretells_91 (by decide) ?_
        refine xr_meet (fun (w21 : (Int32 × xr_S)) => J 166 [some (.ref (ad 49)), none, some (.int w21.1), some (.int t16.2.1), none] [] w21.2) hf (fun w21 hf => ?_) (fun j22 hj22 hf => ?_)
        · refine xr_iinc B (v := (t16.2.1 + 1)) (lv2 := [some (.ref (ad 49)), none, some (.int w21.1), some (.int (t16.2.1 + 1)), none]) dX11_foretells_166 rfl (congrArg (t16.2.1 + ·) (by decide : Int32.ofInt (1) = 1)) (by decide) rfl ?_
          refine xr_goto B (tgt := 77) dX11_foretells_169 (by decide) ?_
          exact hrec17 w21.1 (t16.2.1 + 1) w21.2 hf
        · have hj22 : ∀ (b1 : Int32) (b2 : xr_S), j22 (b1, b2) = some q → J 166 [some (.ref (ad 49)), none, some (.int b1), some (.int t16.2.1), none] [] b2 := fun b1 b2 h => hj22 (b1, b2) h
          refine xr_ic_eq B (tgt := 166) dX11_foretells_92 (by decide) hf (fun _ hf => ?_) (fun _ hf => ?_)
          · exact hj22 t16.1 t16.2.2 hf
          · refine xr_aload_n B dX11_foretells_95 rfl rfl ?_
            refine xr_bipush B (v := 55) dX11_foretells_96 (by decide) ?_
            refine xr_aload_n B dX11_foretells_98 rfl rfl ?_
            refine xr_getR B xg_X11_17 xh_49 rfl dX11_foretells_99 ?_
            refine xr_iload_n B dX11_foretells_102 rfl rfl ?_
            refine xq_iald B xh_52 dX11_foretells_103 hf (fun v24 hf => ?_)
            refine xr_aload_n B dX11_foretells_104 rfl rfl ?_
            refine xr_getR B xg_X11_45 xh_49 rfl dX11_foretells_105 ?_
            refine xr_iload_n B dX11_foretells_108 rfl rfl ?_
            refine xq_iald B xh_60 dX11_foretells_109 hf (fun v25 hf => ?_)
            refine xr_cVi B (rest := []) [.int 55, .int v24, .int v25] xm_X11_weightOf xv_X11_182 (fun q hq => xc_X11_weightOf l D ad ca t16.2.2 55 v24 v25 q hq) xh_49 rfl rfl (by decide) rfl (Nat.le_of_ble_eq_true rfl) dX11_foretells_110 hf (fun v26 hf => ?_)
            refine xr_istore B (lv2 := [some (.ref (ad 49)), none, some (.int t16.1), some (.int t16.2.1), some (.int v26)]) dX11_foretells_113 (by decide) rfl ?_
            refine xr_aload_n B dX11_foretells_115 rfl rfl ?_
            refine xr_bipush B (v := 55) dX11_foretells_116 (by decide) ?_
            refine xr_aload_n B dX11_foretells_118 rfl rfl ?_
            refine xr_getR B xg_X11_17 xh_49 rfl dX11_foretells_119 ?_
            refine xr_iload_n B dX11_foretells_122 rfl rfl ?_
            refine xq_iald B xh_52 dX11_foretells_123 hf (fun v27 hf => ?_)
            refine xr_aload_n B dX11_foretells_124 rfl rfl ?_
            refine xr_getR B xg_X11_45 xh_49 rfl dX11_foretells_125 ?_
            refine xr_iload_n B dX11_foretells_128 rfl rfl ?_
            refine xq_iald B xh_60 dX11_foretells_129 hf (fun v28 hf => ?_)
            refine xr_cVv B (rest := []) [.int 55, .int v27, .int v28] xm_X11_grows xv_X11_238 (fun q hq => xc_X11_grows l D ad ca t16.2.2 55 v27 v28 q hq) xh_49 rfl rfl (by decide) rfl (Nat.le_of_ble_eq_true rfl) dX11_foretells_130 hf (fun s29 hf => ?_)
            refine xr_iload_n B dX11_foretells_133 rfl rfl ?_
            refine xr_meet (fun (w30 : Int32) => J 165 [some (.ref (ad 49)), none, none, some (.int t16.2.1), none] [.int w30] s29) hf (fun w30 hf => ?_) (fun j31 hj31 hf => ?_)
            · refine xr_istore_n B (lv2 := [some (.ref (ad 49)), none, some (.int w30), some (.int t16.2.1), none]) dX11_foretells_165 rfl (by decide) rfl ?_
              exact hj22 w30 s29 hf
            · refine xr_if_ne B (tgt := 160) dX11_foretells_134 (by decide) hf (fun _ hf => ?_) (fun _ hf => ?_)
              · refine xr_iload B dX11_foretells_137 rfl ?_
                refine xr_aload_n B dX11_foretells_139 rfl rfl ?_
                refine xr_bipush B (v := 55) dX11_foretells_140 (by decide) ?_
                refine xr_aload_n B dX11_foretells_142 rfl rfl ?_
                refine xr_getR B xg_X11_17 xh_49 rfl dX11_foretells_143 ?_
                refine xr_iload_n B dX11_foretells_146 rfl rfl ?_
                refine xq_iald B xh_52 dX11_foretells_147 hf (fun v32 hf => ?_)
                refine xr_aload_n B dX11_foretells_148 rfl rfl ?_
                refine xr_getR B xg_X11_45 xh_49 rfl dX11_foretells_149 ?_
                refine xr_iload_n B dX11_foretells_152 rfl rfl ?_
                refine xq_iald B xh_60 dX11_foretells_153 hf (fun v33 hf => ?_)
                refine xr_cVi B (rest := [.int v26]) [.int 55, .int v32, .int v33] xm_X11_weightOf xv_X11_182 (fun q hq => xc_X11_weightOf l D ad ca s29 55 v32 v33 q hq) xh_49 rfl rfl (by decide) rfl (Nat.le_of_ble_eq_true rfl) dX11_foretells_154 hf (fun v34 hf => ?_)
                refine xr_ic_eq B (tgt := 164) dX11_foretells_157 (by decide) hf (fun _ hf => ?_) (fun _ hf => ?_)
                · refine xr_iconst B (v := 0) dX11_foretells_164 (by decide) ?_
                  refine xr_forget B (lv2 := [some (.ref (ad 49)), none, none, some (.int t16.2.1), none]) ⟨rfl, ⟨rfl, trivial⟩⟩ ?_
                  exact hj31 0 hf
                · refine xr_iconst B (v := 1) dX11_foretells_160 (by decide) ?_
                  refine xr_goto B (tgt := 165) dX11_foretells_161 (by decide) ?_
                  refine xr_forget B (lv2 := [some (.ref (ad 49)), none, none, some (.int t16.2.1), none]) ⟨rfl, ⟨rfl, trivial⟩⟩ ?_
                  exact hj31 1 hf
              · refine xr_iconst B (v := 1) dX11_foretells_160 (by decide) ?_
                refine xr_goto B (tgt := 165) dX11_foretells_161 (by decide) ?_
                refine xr_forget B (lv2 := [some (.ref (ad 49)), none, none, some (.int t16.2.1), none]) ⟨rfl, ⟨rfl, trivial⟩⟩ ?_
                exact hj31 1 hf
  · have hrec2 : ∀ (b1 : Int32) (b2 : xr_S), rec2 (b1, b2) = some q → J 4 [some (.ref (ad 49)), some (.int a1), some (.int 0), some (.int b1), none] [] b2 := fun b1 b2 h => hrec2 (b1, b2) h
    unfold xf_X11_foretells_L4 at hf
    refine xr_iload_n B dX11_foretells_4 rfl rfl ?_
    refine xr_aload_n B dX11_foretells_5 rfl rfl ?_
    refine xr_getI B xg_X11_83 xh_49 rfl dX11_foretells_6 ?_
    refine xr_ic_ge B (tgt := 75) dX11_foretells_9 (by decide) hf (fun _ hf => ?_) (fun _ hf => ?_)
    · refine xr_forget B (lv2 := [some (.ref (ad 49)), none, some (.int 0), none, none]) ⟨rfl, ⟨rfl, trivial⟩⟩ ?_
      exact hK4 t1.2 hf
    · refine xr_aload_n B dX11_foretells_12 rfl rfl ?_
      refine xr_getR B xg_X11_42 xh_49 rfl dX11_foretells_13 ?_
      refine xr_iload_n B dX11_foretells_16 rfl rfl ?_
      refine xq_iald B xh_59 dX11_foretells_17 hf (fun v5 hf => ?_)
      refine xr_iconst B (v := (-1)) dX11_foretells_18 (by decide) ?_
      refine xr_meet (fun (w6 : Int32) => J 40 [some (.ref (ad 49)), some (.int a1), some (.int 0), some (.int t1.1), none] [.int w6] t1.2) hf (fun w6 hf => ?_) (fun j7 hj7 hf => ?_)
      · refine xr_istore B (lv2 := [some (.ref (ad 49)), some (.int a1), some (.int 0), some (.int t1.1), some (.int w6)]) dX11_foretells_40 (by decide) rfl ?_
        refine xr_aload_n B dX11_foretells_42 rfl rfl ?_
        refine xr_getR B xg_X11_45 xh_49 rfl dX11_foretells_43 ?_
        refine xr_iload_n B dX11_foretells_46 rfl rfl ?_
        refine xr_iload B dX11_foretells_47 rfl ?_
        refine xr_meet (fun (w8 : Int32) => J 68 [some (.ref (ad 49)), some (.int a1), some (.int 0), some (.int t1.1), none] [.int w8, .int t1.1, .ref (ad 60)] t1.2) hf (fun w8 hf => ?_) (fun j9 hj9 hf => ?_)
        · refine xq_iast B xh_60 dX11_foretells_68 hf (fun s10 hf => ?_)
          refine xr_iinc B (v := (t1.1 + 1)) (lv2 := [some (.ref (ad 49)), some (.int a1), some (.int 0), some (.int (t1.1 + 1)), none]) dX11_foretells_69 rfl (congrArg (t1.1 + ·) (by decide : Int32.ofInt (1) = 1)) (by decide) rfl ?_
          refine xr_goto B (tgt := 4) dX11_foretells_72 (by decide) ?_
          exact hrec2 (t1.1 + 1) s10 hf
        · refine xr_if_eq B (tgt := 67) dX11_foretells_49 (by decide) hf (fun _ hf => ?_) (fun _ hf => ?_)
          · refine xr_iconst B (v := (-1)) dX11_foretells_67 (by decide) ?_
            refine xr_forget B (lv2 := [some (.ref (ad 49)), some (.int a1), some (.int 0), some (.int t1.1), none]) ⟨rfl, ⟨rfl, ⟨rfl, ⟨rfl, trivial⟩⟩⟩⟩ ?_
            exact hj9 (-1) hf
          · refine xr_aload_n B dX11_foretells_52 rfl rfl ?_
            refine xr_bipush B (v := 55) dX11_foretells_53 (by decide) ?_
            refine xr_aload_n B dX11_foretells_55 rfl rfl ?_
            refine xr_getR B xg_X11_42 xh_49 rfl dX11_foretells_56 ?_
            refine xr_iload_n B dX11_foretells_59 rfl rfl ?_
            refine xq_iald B xh_59 dX11_foretells_60 hf (fun v12 hf => ?_)
            refine xr_cVi B (rest := [.int t1.1, .ref (ad 60)]) [.int 55, .int v12] xm_X11_likeliestOf xv_X11_197 (fun q hq => xc_X11_likeliestOf l D ad ca t1.2 55 v12 q hq) xh_49 rfl rfl (by decide) rfl (Nat.le_of_ble_eq_true rfl) dX11_foretells_61 hf (fun v13 hf => ?_)
            refine xr_goto B (tgt := 68) dX11_foretells_64 (by decide) ?_
            refine xr_forget B (lv2 := [some (.ref (ad 49)), some (.int a1), some (.int 0), some (.int t1.1), none]) ⟨rfl, ⟨rfl, ⟨rfl, ⟨rfl, trivial⟩⟩⟩⟩ ?_
            exact hj9 v13 hf
      · refine xr_ic_eq B (tgt := 39) dX11_foretells_19 (by decide) hf (fun _ hf => ?_) (fun _ hf => ?_)
        · refine xr_iconst B (v := 0) dX11_foretells_39 (by decide) ?_
          exact hj7 0 hf
        · refine xr_iload_n B dX11_foretells_22 rfl rfl ?_
          refine xr_aload_n B dX11_foretells_23 rfl rfl ?_
          refine xr_getR B xg_X11_42 xh_49 rfl dX11_foretells_24 ?_
          refine xr_iload_n B dX11_foretells_27 rfl rfl ?_
          refine xq_iald B xh_59 dX11_foretells_28 hf (fun v14 hf => ?_)
          refine xr_cSi B (rest := []) [.int a1, .int v14] xm_X11_has xs_X11_215 (fun q hq => xc_X11_has l D ad ca t1.2 a1 v14 q hq) rfl (by decide) rfl (Nat.le_of_ble_eq_true rfl) dX11_foretells_29 hf (fun v15 hf => ?_)
          refine xr_if_ne B (tgt := 39) dX11_foretells_32 (by decide) hf (fun _ hf => ?_) (fun _ hf => ?_)
          · refine xr_iconst B (v := 1) dX11_foretells_35 (by decide) ?_
            refine xr_goto B (tgt := 40) dX11_foretells_36 (by decide) ?_
            exact hj7 1 hf
          · refine xr_iconst B (v := 0) dX11_foretells_39 (by decide) ?_
            exact hj7 0 hf

noncomputable def xf_X11_foretellsMany_L12 (a1 : Int32) (a2 : Int32) (K5 : xr_S → Option xr_S) (t2 : (Int32 × Int32 × xr_S)) (rec3 : (Int32 × Int32 × xr_S) → Option xr_S) : Option xr_S := if a1 ≤ t2.2.1 then (K5 t2.2.2) else (if t2.1 = 0 then (K5 t2.2.2) else ((xf_X11_foretells t2.2.2 a2).bind (fun p6 => rec3 (p6.1, (t2.2.1 + 1), p6.2))))
noncomputable def xf_X11_foretellsMany (σ : xr_S) (a1 : Int32) (a2 : Int32) : Option xr_S := (xf_X11_copy σ 0 55).bind (fun s1 => xr_lw (xf_X11_foretellsMany_L12 a1 a2 (fun (e4 : xr_S) => some e4)) (1, 0, s1))
set_option maxRecDepth 100000 in
set_option maxHeartbeats 4000000 in
theorem xc_X11_foretellsMany (l : Launch) (D : va_G) (ad : Nat → Nat) (ca : Nat → ClassId) (σ : xr_S) (a1 : Int32) (a2 : Int32) (q : xr_S) (hf : xf_X11_foretellsMany σ a1 a2 = some q) : xr_M l D ad ca yX11_foretellsMany cX11_foretellsMany 5 none 3 71 [.ref (ad 49), .int a1, .int a2] σ none q := by
  refine xr_openV [some (.ref (ad 49)), some (.int a1), some (.int a2), none, none] xm_X11_foretellsMany (Nat.le_of_ble_eq_true rfl) rfl (fun J B RR => ?_)
  unfold xf_X11_foretellsMany at hf
  refine xr_aload_n B dX11_foretellsMany_0 rfl rfl ?_
  refine xr_iconst B (v := 0) dX11_foretellsMany_1 (by decide) ?_
  refine xr_bipush B (v := 55) dX11_foretellsMany_2 (by decide) ?_
  refine xr_cVv B (rest := []) [.int 0, .int 55] xm_X11_copy xv_X11_249 (fun q hq => xc_X11_copy l D ad ca σ 0 55 q hq) xh_49 rfl rfl (by decide) rfl (Nat.le_of_ble_eq_true rfl) dX11_foretellsMany_4 hf (fun s1 hf => ?_)
  refine xr_iconst B (v := 1) dX11_foretellsMany_7 (by decide) ?_
  refine xr_istore_n B (lv2 := [some (.ref (ad 49)), some (.int a1), some (.int a2), some (.int 1), none]) dX11_foretellsMany_8 rfl (by decide) rfl ?_
  refine xr_iconst B (v := 0) dX11_foretellsMany_9 (by decide) ?_
  refine xr_istore B (lv2 := [some (.ref (ad 49)), some (.int a1), some (.int a2), some (.int 1), some (.int 0)]) dX11_foretellsMany_10 (by decide) rfl ?_
  refine xq_loop (fun (t2 : (Int32 × Int32 × xr_S)) => J 12 [some (.ref (ad 49)), some (.int a1), some (.int a2), some (.int t2.1), some (.int t2.2.1)] [] t2.2.2) (fun (e4 : xr_S) => J 34 [none, none, none, none, none] [] e4) hf (fun e4 hf => ?_) (fun K5 hK5 t2 rec3 hrec3 hf => ?_)
  · obtain rfl := Option.some.inj hf
    exact RR _ _ dX11_foretellsMany_34 rfl
  · have hrec3 : ∀ (b1 : Int32) (b2 : Int32) (b3 : xr_S), rec3 (b1, b2, b3) = some q → J 12 [some (.ref (ad 49)), some (.int a1), some (.int a2), some (.int b1), some (.int b2)] [] b3 := fun b1 b2 b3 h => hrec3 (b1, b2, b3) h
    unfold xf_X11_foretellsMany_L12 at hf
    refine xr_iload B dX11_foretellsMany_12 rfl ?_
    refine xr_iload_n B dX11_foretellsMany_14 rfl rfl ?_
    refine xr_ic_ge B (tgt := 34) dX11_foretellsMany_15 (by decide) hf (fun _ hf => ?_) (fun _ hf => ?_)
    · refine xr_forget B (lv2 := [none, none, none, none, none]) trivial ?_
      exact hK5 t2.2.2 hf
    · refine xr_iload_n B dX11_foretellsMany_18 rfl rfl ?_
      refine xr_if_eq B (tgt := 34) dX11_foretellsMany_19 (by decide) hf (fun _ hf => ?_) (fun _ hf => ?_)
      · refine xr_forget B (lv2 := [none, none, none, none, none]) trivial ?_
        exact hK5 t2.2.2 hf
      · refine xr_aload_n B dX11_foretellsMany_22 rfl rfl ?_
        refine xr_iload_n B dX11_foretellsMany_23 rfl rfl ?_
        refine xr_cVI B (rest := []) [.int a2] xm_X11_foretells xv_X11_253 (fun q hq => xc_X11_foretells l D ad ca t2.2.2 a2 q hq) xh_49 rfl rfl (by decide) rfl (Nat.le_of_ble_eq_true rfl) dX11_foretellsMany_24 hf (fun p6 hf => ?_)
        refine xr_istore_n B (lv2 := [some (.ref (ad 49)), some (.int a1), some (.int a2), some (.int p6.1), some (.int t2.2.1)]) dX11_foretellsMany_27 rfl (by decide) rfl ?_
        refine xr_iinc B (v := (t2.2.1 + 1)) (lv2 := [some (.ref (ad 49)), some (.int a1), some (.int a2), some (.int p6.1), some (.int (t2.2.1 + 1))]) dX11_foretellsMany_28 rfl (congrArg (t2.2.1 + ·) (by decide : Int32.ofInt (1) = 1)) (by decide) rfl ?_
        refine xr_goto B (tgt := 12) dX11_foretellsMany_31 (by decide) ?_
        exact hrec3 p6.1 (t2.2.1 + 1) p6.2 hf

noncomputable def xf_X11_foretold (σ : xr_S) (a1 : Int32) (a2 : Int32) (a3 : Int32) : Option (Int32 × xr_S) := (xf_X11_isSleeper σ a1).bind (fun v1 => if v1 = 0 then (some ((-1000000001), σ)) else (xr_jn (fun (w2 : Unit) => (xf_X11_in σ (Int32.toInt64 a3) 0 200).bind (fun v4 => if v4 = 0 then (some ((-1000000002), σ)) else ((xf_X11_findBeds σ).bind (fun s5 => (xf_X11_foretellsMany s5 a3 0).bind (fun s6 => if a2 = (-1) then ((xf_X11_likeliestOf s6 55 a1).bind (fun v7 => some (v7, s6))) else ((xf_X11_weightOf s6 55 a1 a2).bind (fun v8 => some (v8, s6)))))))) (fun j3 => if a2 = (-1) then (j3 ()) else ((xf_X11_isDream σ a2).bind (fun v9 => if v9 = 0 then (some ((-1000000001), σ)) else (j3 ()))))))
set_option maxRecDepth 100000 in
set_option maxHeartbeats 4000000 in
theorem xc_X11_foretold (l : Launch) (D : va_G) (ad : Nat → Nat) (ca : Nat → ClassId) (σ : xr_S) (a1 : Int32) (a2 : Int32) (a3 : Int32) (q : (Int32 × xr_S)) (hf : xf_X11_foretold σ a1 a2 a3 = some q) : xr_M l D ad ca yX11_foretold cX11_foretold 4 (some .int) 4 95 [.ref (ad 49), .int a1, .int a2, .int a3] σ (some (.int q.1)) q.2 := by
  refine xr_openI [some (.ref (ad 49)), some (.int a1), some (.int a2), some (.int a3)] xm_X11_foretold (Nat.le_of_ble_eq_true rfl) rfl (fun J B RR => ?_)
  unfold xf_X11_foretold at hf
  refine xr_aload_n B dX11_foretold_0 rfl rfl ?_
  refine xr_iload_n B dX11_foretold_1 rfl rfl ?_
  refine xr_cVi B (rest := []) [.int a1] xm_X11_isSleeper xv_X11_186 (fun q hq => xc_X11_isSleeper l D ad ca σ a1 q hq) xh_49 rfl rfl (by decide) rfl (Nat.le_of_ble_eq_true rfl) dX11_foretold_2 hf (fun v1 hf => ?_)
  refine xr_if_eq B (tgt := 21) dX11_foretold_5 (by decide) hf (fun _ hf => ?_) (fun _ hf => ?_)
  · refine xr_ldc B xk_X11_192 dX11_foretold_21 ?_
    obtain rfl := Option.some.inj hf
    exact RR _ _ _ dX11_foretold_23 rfl
  · refine xr_iload_n B dX11_foretold_8 rfl rfl ?_
    refine xr_iconst B (v := (-1)) dX11_foretold_9 (by decide) ?_
    refine xr_meet (fun (w2 : Unit) => J 24 [some (.ref (ad 49)), some (.int a1), some (.int a2), some (.int a3)] [] σ) hf (fun w2 hf => ?_) (fun j3 hj3 hf => ?_)
    · refine xr_iload_n B dX11_foretold_24 rfl rfl ?_
      refine xr_i2l B dX11_foretold_25 ?_
      refine xr_lconst B (v := 0) dX11_foretold_26 (by decide) ?_
      refine xr_ldc2 B xl_X11_256 dX11_foretold_27 ?_
      refine xr_cSi B (rest := []) [.long (Int32.toInt64 a3), .long 0, .long 200] xm_X11_in xs_X11_76 (fun q hq => xc_X11_in l D ad ca σ (Int32.toInt64 a3) 0 200 q hq) rfl (by decide) rfl (Nat.le_of_ble_eq_true rfl) dX11_foretold_30 hf (fun v4 hf => ?_)
      refine xr_if_ne B (tgt := 39) dX11_foretold_33 (by decide) hf (fun _ hf => ?_) (fun _ hf => ?_)
      · refine xr_ldc B xk_X11_88 dX11_foretold_36 ?_
        obtain rfl := Option.some.inj hf
        exact RR _ _ _ dX11_foretold_38 rfl
      · refine xr_aload_n B dX11_foretold_39 rfl rfl ?_
        refine xr_cVv B (rest := []) [] xm_X11_findBeds xv_X11_246 (fun q hq => xc_X11_findBeds l D ad ca σ q hq) xh_49 rfl rfl (by decide) rfl (Nat.le_of_ble_eq_true rfl) dX11_foretold_40 hf (fun s5 hf => ?_)
        refine xr_aload_n B dX11_foretold_43 rfl rfl ?_
        refine xr_iload_n B dX11_foretold_44 rfl rfl ?_
        refine xr_iconst B (v := 0) dX11_foretold_45 (by decide) ?_
        refine xr_cVv B (rest := []) [.int a3, .int 0] xm_X11_foretellsMany xv_X11_258 (fun q hq => xc_X11_foretellsMany l D ad ca s5 a3 0 q hq) xh_49 rfl rfl (by decide) rfl (Nat.le_of_ble_eq_true rfl) dX11_foretold_46 hf (fun s6 hf => ?_)
        refine xr_iload_n B dX11_foretold_49 rfl rfl ?_
        refine xr_iconst B (v := (-1)) dX11_foretold_50 (by decide) ?_
        refine xr_ic_ne B (tgt := 64) dX11_foretold_51 (by decide) hf (fun _ hf => ?_) (fun _ hf => ?_)
        · refine xr_aload_n B dX11_foretold_54 rfl rfl ?_
          refine xr_bipush B (v := 55) dX11_foretold_55 (by decide) ?_
          refine xr_iload_n B dX11_foretold_57 rfl rfl ?_
          refine xr_cVi B (rest := []) [.int 55, .int a1] xm_X11_likeliestOf xv_X11_197 (fun q hq => xc_X11_likeliestOf l D ad ca s6 55 a1 q hq) xh_49 rfl rfl (by decide) rfl (Nat.le_of_ble_eq_true rfl) dX11_foretold_58 hf (fun v7 hf => ?_)
          refine xr_goto B (tgt := 72) dX11_foretold_61 (by decide) ?_
          obtain rfl := Option.some.inj hf
          exact RR _ _ _ dX11_foretold_72 rfl
        · refine xr_aload_n B dX11_foretold_64 rfl rfl ?_
          refine xr_bipush B (v := 55) dX11_foretold_65 (by decide) ?_
          refine xr_iload_n B dX11_foretold_67 rfl rfl ?_
          refine xr_iload_n B dX11_foretold_68 rfl rfl ?_
          refine xr_cVi B (rest := []) [.int 55, .int a1, .int a2] xm_X11_weightOf xv_X11_182 (fun q hq => xc_X11_weightOf l D ad ca s6 55 a1 a2 q hq) xh_49 rfl rfl (by decide) rfl (Nat.le_of_ble_eq_true rfl) dX11_foretold_69 hf (fun v8 hf => ?_)
          obtain rfl := Option.some.inj hf
          exact RR _ _ _ dX11_foretold_72 rfl
    · refine xr_ic_eq B (tgt := 24) dX11_foretold_10 (by decide) hf (fun _ hf => ?_) (fun _ hf => ?_)
      · exact hj3 () hf
      · refine xr_aload_n B dX11_foretold_13 rfl rfl ?_
        refine xr_iload_n B dX11_foretold_14 rfl rfl ?_
        refine xr_cVi B (rest := []) [.int a2] xm_X11_isDream xv_X11_189 (fun q hq => xc_X11_isDream l D ad ca σ a2 q hq) xh_49 rfl rfl (by decide) rfl (Nat.le_of_ble_eq_true rfl) dX11_foretold_15 hf (fun v9 hf => ?_)
        refine xr_if_ne B (tgt := 24) dX11_foretold_18 (by decide) hf (fun _ hf => ?_) (fun _ hf => ?_)
        · refine xr_ldc B xk_X11_192 dX11_foretold_21 ?_
          obtain rfl := Option.some.inj hf
          exact RR _ _ _ dX11_foretold_23 rfl
        · exact hj3 () hf

noncomputable def xf_X11_settled_L13  (K6 : xr_S → Option (Int32 × xr_S)) (t3 : (Int32 × xr_S)) (rec4 : (Int32 × xr_S) → Option (Int32 × xr_S)) : Option (Int32 × xr_S) := if 200 < t3.1 then (K6 t3.2) else ((xf_X11_foretells t3.2 0).bind (fun p7 => if p7.1 = 0 then (some (t3.1, p7.2)) else (rec4 ((t3.1 + 1), p7.2))))
noncomputable def xf_X11_settled (σ : xr_S) : Option (Int32 × xr_S) := (xf_X11_findBeds σ).bind (fun s1 => (xf_X11_copy s1 0 55).bind (fun s2 => xr_lw (xf_X11_settled_L13 (fun (e5 : xr_S) => some ((-1), e5))) (0, s2)))
set_option maxRecDepth 100000 in
set_option maxHeartbeats 4000000 in
theorem xc_X11_settled (l : Launch) (D : va_G) (ad : Nat → Nat) (ca : Nat → ClassId) (σ : xr_S) (q : (Int32 × xr_S)) (hf : xf_X11_settled σ = some q) : xr_M l D ad ca yX11_settled cX11_settled 2 (some .int) 4 95 [.ref (ad 49)] σ (some (.int q.1)) q.2 := by
  refine xr_openI [some (.ref (ad 49)), none] xm_X11_settled (Nat.le_of_ble_eq_true rfl) rfl (fun J B RR => ?_)
  unfold xf_X11_settled at hf
  refine xr_aload_n B dX11_settled_0 rfl rfl ?_
  refine xr_cVv B (rest := []) [] xm_X11_findBeds xv_X11_246 (fun q hq => xc_X11_findBeds l D ad ca σ q hq) xh_49 rfl rfl (by decide) rfl (Nat.le_of_ble_eq_true rfl) dX11_settled_1 hf (fun s1 hf => ?_)
  refine xr_aload_n B dX11_settled_4 rfl rfl ?_
  refine xr_iconst B (v := 0) dX11_settled_5 (by decide) ?_
  refine xr_bipush B (v := 55) dX11_settled_6 (by decide) ?_
  refine xr_cVv B (rest := []) [.int 0, .int 55] xm_X11_copy xv_X11_249 (fun q hq => xc_X11_copy l D ad ca s1 0 55 q hq) xh_49 rfl rfl (by decide) rfl (Nat.le_of_ble_eq_true rfl) dX11_settled_8 hf (fun s2 hf => ?_)
  refine xr_iconst B (v := 0) dX11_settled_11 (by decide) ?_
  refine xr_istore_n B (lv2 := [some (.ref (ad 49)), some (.int 0)]) dX11_settled_12 rfl (by decide) rfl ?_
  refine xq_loop (fun (t3 : (Int32 × xr_S)) => J 13 [some (.ref (ad 49)), some (.int t3.1)] [] t3.2) (fun (e5 : xr_S) => J 36 [none, none] [] e5) hf (fun e5 hf => ?_) (fun K6 hK6 t3 rec4 hrec4 hf => ?_)
  · refine xr_iconst B (v := (-1)) dX11_settled_36 (by decide) ?_
    obtain rfl := Option.some.inj hf
    exact RR _ _ _ dX11_settled_37 rfl
  · have hrec4 : ∀ (b1 : Int32) (b2 : xr_S), rec4 (b1, b2) = some q → J 13 [some (.ref (ad 49)), some (.int b1)] [] b2 := fun b1 b2 h => hrec4 (b1, b2) h
    unfold xf_X11_settled_L13 at hf
    refine xr_iload_n B dX11_settled_13 rfl rfl ?_
    refine xr_sipush B (v := 200) dX11_settled_14 (by decide) ?_
    refine xr_ic_gt B (tgt := 36) dX11_settled_17 (by decide) hf (fun _ hf => ?_) (fun _ hf => ?_)
    · refine xr_forget B (lv2 := [none, none]) trivial ?_
      exact hK6 t3.2 hf
    · refine xr_aload_n B dX11_settled_20 rfl rfl ?_
      refine xr_iconst B (v := 0) dX11_settled_21 (by decide) ?_
      refine xr_cVI B (rest := []) [.int 0] xm_X11_foretells xv_X11_253 (fun q hq => xc_X11_foretells l D ad ca t3.2 0 q hq) xh_49 rfl rfl (by decide) rfl (Nat.le_of_ble_eq_true rfl) dX11_settled_22 hf (fun p7 hf => ?_)
      refine xr_if_ne B (tgt := 30) dX11_settled_25 (by decide) hf (fun _ hf => ?_) (fun _ hf => ?_)
      · refine xr_iload_n B dX11_settled_28 rfl rfl ?_
        obtain rfl := Option.some.inj hf
        exact RR _ _ _ dX11_settled_29 rfl
      · refine xr_iinc B (v := (t3.1 + 1)) (lv2 := [some (.ref (ad 49)), some (.int (t3.1 + 1))]) dX11_settled_30 rfl (congrArg (t3.1 + ·) (by decide : Int32.ofInt (1) = 1)) (by decide) rfl ?_
        refine xr_goto B (tgt := 13) dX11_settled_33 (by decide) ?_
        exact hrec4 (t3.1 + 1) p7.2 hf

noncomputable def xf_X11_isCalm_L4 (σ : xr_S) (K4 : Int32 → Option Int32) (t1 : (Int32 × Int32)) (rec2 : (Int32 × Int32) → Option Int32) : Option Int32 := if (σ.1 49 4) ≤ t1.2 then (K4 t1.1) else (xr_jn (fun (w5 : Int32) => rec2 (w5, (t1.2 + 1))) (fun j6 => if t1.1 = 0 then (j6 0) else ((xf_X11_likeliestOf σ 55 t1.2).bind (fun v8 => if v8 = (σ.1 49 6) then (j6 0) else (j6 1)))))
noncomputable def xf_X11_isCalm (σ : xr_S) : Option Int32 := xr_lw (xf_X11_isCalm_L4 σ (fun (e3 : Int32) => xr_zb e3 (some e3))) (1, 0)
set_option maxRecDepth 100000 in
set_option maxHeartbeats 4000000 in
theorem xc_X11_isCalm (l : Launch) (D : va_G) (ad : Nat → Nat) (ca : Nat → ClassId) (σ : xr_S) (q : Int32) (hf : xf_X11_isCalm σ = some q) : xr_M l D ad ca yX11_isCalm cX11_isCalm 3 (some .boolean) 2 47 [.ref (ad 49)] σ (some (.int q)) σ := by
  refine xr_openZ [some (.ref (ad 49)), none, none] xm_X11_isCalm (Nat.le_of_ble_eq_true rfl) rfl (fun J B RR => ?_)
  unfold xf_X11_isCalm at hf
  refine xr_iconst B (v := 1) dX11_isCalm_0 (by decide) ?_
  refine xr_istore_n B (lv2 := [some (.ref (ad 49)), some (.int 1), none]) dX11_isCalm_1 rfl (by decide) rfl ?_
  refine xr_iconst B (v := 0) dX11_isCalm_2 (by decide) ?_
  refine xr_istore_n B (lv2 := [some (.ref (ad 49)), some (.int 1), some (.int 0)]) dX11_isCalm_3 rfl (by decide) rfl ?_
  refine xq_loop (fun (t1 : (Int32 × Int32)) => J 4 [some (.ref (ad 49)), some (.int t1.1), some (.int t1.2)] [] σ) (fun (e3 : Int32) => J 42 [none, some (.int e3), none] [] σ) hf (fun e3 hf => ?_) (fun K4 hK4 t1 rec2 hrec2 hf => ?_)
  · refine xr_iload_n B dX11_isCalm_42 rfl rfl ?_
    obtain ⟨hz, hf⟩ := xq_zb hf
    obtain rfl := Option.some.inj hf
    exact RR _ _ _ hz dX11_isCalm_43 rfl
  · have hrec2 : ∀ (b1 : Int32) (b2 : Int32), rec2 (b1, b2) = some q → J 4 [some (.ref (ad 49)), some (.int b1), some (.int b2)] [] σ := fun b1 b2 h => hrec2 (b1, b2) h
    unfold xf_X11_isCalm_L4 at hf
    refine xr_iload_n B dX11_isCalm_4 rfl rfl ?_
    refine xr_aload_n B dX11_isCalm_5 rfl rfl ?_
    refine xr_getI B xg_X11_73 xh_49 rfl dX11_isCalm_6 ?_
    refine xr_ic_ge B (tgt := 42) dX11_isCalm_9 (by decide) hf (fun _ hf => ?_) (fun _ hf => ?_)
    · refine xr_forget B (lv2 := [none, some (.int t1.1), none]) ⟨rfl, trivial⟩ ?_
      exact hK4 t1.1 hf
    · refine xr_iload_n B dX11_isCalm_12 rfl rfl ?_
      refine xr_meet (fun (w5 : Int32) => J 35 [some (.ref (ad 49)), none, some (.int t1.2)] [.int w5] σ) hf (fun w5 hf => ?_) (fun j6 hj6 hf => ?_)
      · refine xr_istore_n B (lv2 := [some (.ref (ad 49)), some (.int w5), some (.int t1.2)]) dX11_isCalm_35 rfl (by decide) rfl ?_
        refine xr_iinc B (v := (t1.2 + 1)) (lv2 := [some (.ref (ad 49)), some (.int w5), some (.int (t1.2 + 1))]) dX11_isCalm_36 rfl (congrArg (t1.2 + ·) (by decide : Int32.ofInt (1) = 1)) (by decide) rfl ?_
        refine xr_goto B (tgt := 4) dX11_isCalm_39 (by decide) ?_
        exact hrec2 w5 (t1.2 + 1) hf
      · refine xr_if_eq B (tgt := 34) dX11_isCalm_13 (by decide) hf (fun _ hf => ?_) (fun _ hf => ?_)
        · refine xr_iconst B (v := 0) dX11_isCalm_34 (by decide) ?_
          refine xr_forget B (lv2 := [some (.ref (ad 49)), none, some (.int t1.2)]) ⟨rfl, ⟨rfl, trivial⟩⟩ ?_
          exact hj6 0 hf
        · refine xr_aload_n B dX11_isCalm_16 rfl rfl ?_
          refine xr_bipush B (v := 55) dX11_isCalm_17 (by decide) ?_
          refine xr_iload_n B dX11_isCalm_19 rfl rfl ?_
          refine xr_cVi B (rest := []) [.int 55, .int t1.2] xm_X11_likeliestOf xv_X11_197 (fun q hq => xc_X11_likeliestOf l D ad ca σ 55 t1.2 q hq) xh_49 rfl rfl (by decide) rfl (Nat.le_of_ble_eq_true rfl) dX11_isCalm_20 hf (fun v8 hf => ?_)
          refine xr_aload_n B dX11_isCalm_23 rfl rfl ?_
          refine xr_getI B xg_X11_166 xh_49 rfl dX11_isCalm_24 ?_
          refine xr_ic_eq B (tgt := 34) dX11_isCalm_27 (by decide) hf (fun _ hf => ?_) (fun _ hf => ?_)
          · refine xr_iconst B (v := 0) dX11_isCalm_34 (by decide) ?_
            refine xr_forget B (lv2 := [some (.ref (ad 49)), none, some (.int t1.2)]) ⟨rfl, ⟨rfl, trivial⟩⟩ ?_
            exact hj6 0 hf
          · refine xr_iconst B (v := 1) dX11_isCalm_30 (by decide) ?_
            refine xr_goto B (tgt := 35) dX11_isCalm_31 (by decide) ?_
            refine xr_forget B (lv2 := [some (.ref (ad 49)), none, some (.int t1.2)]) ⟨rfl, ⟨rfl, trivial⟩⟩ ?_
            exact hj6 1 hf

noncomputable def xf_X11_awake_L34 (a1 : Int32) (K7 : (Int32 × xr_S) → Option (Int32 × xr_S)) (t4 : (Int32 × Int32 × xr_S)) (rec5 : (Int32 × Int32 × xr_S) → Option (Int32 × xr_S)) : Option (Int32 × xr_S) := if ((1 : Int32) <<< ((t4.2.2.1 49 4) &&& 31)) ≤ t4.2.1 then (K7 (t4.1, t4.2.2)) else (xr_ld t4.2.2 50 220 51 (fun v8 => xr_jn (fun (w9 : Int32) => xr_jn (fun (w11 : (Int32 × xr_S)) => rec5 (w11.1, (t4.2.1 + 1), w11.2)) (fun j12 => if w9 = 0 then (j12 (t4.1, t4.2.2)) else ((xf_X11_foretellsMany t4.2.2 a1 t4.2.1).bind (fun s14 => (xf_X11_isCalm s14).bind (fun v15 => xr_jn (fun (w16 : Int32) => j12 (w16, s14)) (fun j17 => if v15 = 0 then (j17 t4.1) else (j17 t4.2.1))))))) (fun j10 => if (t4.2.1 &&& v8) = 0 then (if t4.1 = (-1) then (j10 1) else ((xf_X11_ones t4.2.2 t4.2.1).bind (fun v18 => (xf_X11_ones t4.2.2 t4.1).bind (fun v19 => if v19 ≤ v18 then (j10 0) else (j10 1))))) else (j10 0))))
noncomputable def xf_X11_awake (σ : xr_S) (a1 : Int32) (a2 : Int32) : Option (Int32 × xr_S) := (xf_X11_in σ (Int32.toInt64 a1) 0 200).bind (fun v1 => if v1 = 0 then (some ((-1000000002), σ)) else ((xf_X11_in σ (Int32.toInt64 a2) 0 1).bind (fun v2 => if v2 = 0 then (some ((-1000000002), σ)) else ((xf_X11_findBeds σ).bind (fun s3 => xr_lw (xf_X11_awake_L34 a1 (fun (e6 : (Int32 × xr_S)) => if e6.1 = (-1) then (some (e6.1, e6.2)) else (if a2 = 1 then (some (e6.1, e6.2)) else ((xf_X11_ones e6.2 e6.1).bind (fun v20 => some (v20, e6.2)))))) ((-1), 0, s3))))))
set_option maxRecDepth 100000 in
set_option maxHeartbeats 4000000 in
theorem xc_X11_awake (l : Launch) (D : va_G) (ad : Nat → Nat) (ca : Nat → ClassId) (σ : xr_S) (a1 : Int32) (a2 : Int32) (q : (Int32 × xr_S)) (hf : xf_X11_awake σ a1 a2 = some q) : xr_M l D ad ca yX11_awake cX11_awake 6 (some .int) 4 95 [.ref (ad 49), .int a1, .int a2] σ (some (.int q.1)) q.2 := by
  refine xr_openI [some (.ref (ad 49)), some (.int a1), some (.int a2), none, none, none] xm_X11_awake (Nat.le_of_ble_eq_true rfl) rfl (fun J B RR => ?_)
  unfold xf_X11_awake at hf
  refine xr_iload_n B dX11_awake_0 rfl rfl ?_
  refine xr_i2l B dX11_awake_1 ?_
  refine xr_lconst B (v := 0) dX11_awake_2 (by decide) ?_
  refine xr_ldc2 B xl_X11_256 dX11_awake_3 ?_
  refine xr_cSi B (rest := []) [.long (Int32.toInt64 a1), .long 0, .long 200] xm_X11_in xs_X11_76 (fun q hq => xc_X11_in l D ad ca σ (Int32.toInt64 a1) 0 200 q hq) rfl (by decide) rfl (Nat.le_of_ble_eq_true rfl) dX11_awake_6 hf (fun v1 hf => ?_)
  refine xr_if_eq B (tgt := 22) dX11_awake_9 (by decide) hf (fun _ hf => ?_) (fun _ hf => ?_)
  · refine xr_ldc B xk_X11_88 dX11_awake_22 ?_
    obtain rfl := Option.some.inj hf
    exact RR _ _ _ dX11_awake_24 rfl
  · refine xr_iload_n B dX11_awake_12 rfl rfl ?_
    refine xr_i2l B dX11_awake_13 ?_
    refine xr_lconst B (v := 0) dX11_awake_14 (by decide) ?_
    refine xr_lconst B (v := 1) dX11_awake_15 (by decide) ?_
    refine xr_cSi B (rest := []) [.long (Int32.toInt64 a2), .long 0, .long 1] xm_X11_in xs_X11_76 (fun q hq => xc_X11_in l D ad ca σ (Int32.toInt64 a2) 0 1 q hq) rfl (by decide) rfl (Nat.le_of_ble_eq_true rfl) dX11_awake_16 hf (fun v2 hf => ?_)
    refine xr_if_ne B (tgt := 25) dX11_awake_19 (by decide) hf (fun _ hf => ?_) (fun _ hf => ?_)
    · refine xr_ldc B xk_X11_88 dX11_awake_22 ?_
      obtain rfl := Option.some.inj hf
      exact RR _ _ _ dX11_awake_24 rfl
    · refine xr_aload_n B dX11_awake_25 rfl rfl ?_
      refine xr_cVv B (rest := []) [] xm_X11_findBeds xv_X11_246 (fun q hq => xc_X11_findBeds l D ad ca σ q hq) xh_49 rfl rfl (by decide) rfl (Nat.le_of_ble_eq_true rfl) dX11_awake_26 hf (fun s3 hf => ?_)
      refine xr_iconst B (v := (-1)) dX11_awake_29 (by decide) ?_
      refine xr_istore_n B (lv2 := [some (.ref (ad 49)), some (.int a1), some (.int a2), some (.int (-1)), none, none]) dX11_awake_30 rfl (by decide) rfl ?_
      refine xr_iconst B (v := 0) dX11_awake_31 (by decide) ?_
      refine xr_istore B (lv2 := [some (.ref (ad 49)), some (.int a1), some (.int a2), some (.int (-1)), some (.int 0), none]) dX11_awake_32 (by decide) rfl ?_
      refine xq_loop (fun (t4 : (Int32 × Int32 × xr_S)) => J 34 [some (.ref (ad 49)), some (.int a1), some (.int a2), some (.int t4.1), some (.int t4.2.1), none] [] t4.2.2) (fun (e6 : (Int32 × xr_S)) => J 114 [none, none, some (.int a2), some (.int e6.1), none, none] [] e6.2) hf (fun e6 hf => ?_) (fun K7 hK7 t4 rec5 hrec5 hf => ?_)
      · refine xr_iload_n B dX11_awake_114 rfl rfl ?_
        refine xr_iconst B (v := (-1)) dX11_awake_115 (by decide) ?_
        refine xr_ic_eq B (tgt := 124) dX11_awake_116 (by decide) hf (fun _ hf => ?_) (fun _ hf => ?_)
        · refine xr_iload_n B dX11_awake_124 rfl rfl ?_
          refine xr_goto B (tgt := 132) dX11_awake_125 (by decide) ?_
          obtain rfl := Option.some.inj hf
          exact RR _ _ _ dX11_awake_132 rfl
        · refine xr_iload_n B dX11_awake_119 rfl rfl ?_
          refine xr_iconst B (v := 1) dX11_awake_120 (by decide) ?_
          refine xr_ic_ne B (tgt := 128) dX11_awake_121 (by decide) hf (fun _ hf => ?_) (fun _ hf => ?_)
          · refine xr_iload_n B dX11_awake_124 rfl rfl ?_
            refine xr_goto B (tgt := 132) dX11_awake_125 (by decide) ?_
            obtain rfl := Option.some.inj hf
            exact RR _ _ _ dX11_awake_132 rfl
          · refine xr_iload_n B dX11_awake_128 rfl rfl ?_
            refine xr_cSi B (rest := []) [.int e6.1] xm_X11_ones xs_X11_261 (fun q hq => xc_X11_ones l D ad ca e6.2 e6.1 q hq) rfl (by decide) rfl (Nat.le_of_ble_eq_true rfl) dX11_awake_129 hf (fun v20 hf => ?_)
            obtain rfl := Option.some.inj hf
            exact RR _ _ _ dX11_awake_132 rfl
      · have hrec5 : ∀ (b1 : Int32) (b2 : Int32) (b3 : xr_S), rec5 (b1, b2, b3) = some q → J 34 [some (.ref (ad 49)), some (.int a1), some (.int a2), some (.int b1), some (.int b2), none] [] b3 := fun b1 b2 b3 h => hrec5 (b1, b2, b3) h
        have hK7 : ∀ (b1 : Int32) (b2 : xr_S), K7 (b1, b2) = some q → J 114 [none, none, some (.int a2), some (.int b1), none, none] [] b2 := fun b1 b2 h => hK7 (b1, b2) h
        unfold xf_X11_awake_L34 at hf
        refine xr_iload B dX11_awake_34 rfl ?_
        refine xr_iconst B (v := 1) dX11_awake_36 (by decide) ?_
        refine xr_aload_n B dX11_awake_37 rfl rfl ?_
        refine xr_getI B xg_X11_73 xh_49 rfl dX11_awake_38 ?_
        refine xr_ishl B dX11_awake_41 ?_
        refine xr_ic_ge B (tgt := 114) dX11_awake_42 (by decide) hf (fun _ hf => ?_) (fun _ hf => ?_)
        · refine xr_forget B (lv2 := [none, none, some (.int a2), some (.int t4.1), none, none]) ⟨rfl, ⟨rfl, trivial⟩⟩ ?_
          exact hK7 t4.1 t4.2.2 hf
        · refine xr_iload B dX11_awake_45 rfl ?_
          refine xr_aload_n B dX11_awake_47 rfl rfl ?_
          refine xr_getR B xg_X11_7 xh_49 rfl dX11_awake_48 ?_
          refine xr_bipush B (v := 51) dX11_awake_51 (by decide) ?_
          refine xq_iald B xh_50 dX11_awake_53 hf (fun v8 hf => ?_)
          refine xr_iand B dX11_awake_54 ?_
          refine xr_meet (fun (w9 : Int32) => J 80 [some (.ref (ad 49)), some (.int a1), some (.int a2), some (.int t4.1), some (.int t4.2.1), none] [.int w9] t4.2.2) hf (fun w9 hf => ?_) (fun j10 hj10 hf => ?_)
          · refine xr_istore B (lv2 := [some (.ref (ad 49)), some (.int a1), some (.int a2), some (.int t4.1), some (.int t4.2.1), some (.int w9)]) dX11_awake_80 (by decide) rfl ?_
            refine xr_iload B dX11_awake_82 rfl ?_
            refine xr_meet (fun (w11 : (Int32 × xr_S)) => J 108 [some (.ref (ad 49)), some (.int a1), some (.int a2), some (.int w11.1), some (.int t4.2.1), none] [] w11.2) hf (fun w11 hf => ?_) (fun j12 hj12 hf => ?_)
            · refine xr_iinc B (v := (t4.2.1 + 1)) (lv2 := [some (.ref (ad 49)), some (.int a1), some (.int a2), some (.int w11.1), some (.int (t4.2.1 + 1)), none]) dX11_awake_108 rfl (congrArg (t4.2.1 + ·) (by decide : Int32.ofInt (1) = 1)) (by decide) rfl ?_
              refine xr_goto B (tgt := 34) dX11_awake_111 (by decide) ?_
              exact hrec5 w11.1 (t4.2.1 + 1) w11.2 hf
            · have hj12 : ∀ (b1 : Int32) (b2 : xr_S), j12 (b1, b2) = some q → J 108 [some (.ref (ad 49)), some (.int a1), some (.int a2), some (.int b1), some (.int t4.2.1), none] [] b2 := fun b1 b2 h => hj12 (b1, b2) h
              refine xr_if_eq B (tgt := 108) dX11_awake_84 (by decide) hf (fun _ hf => ?_) (fun _ hf => ?_)
              · refine xr_forget B (lv2 := [some (.ref (ad 49)), some (.int a1), some (.int a2), some (.int t4.1), some (.int t4.2.1), none]) ⟨rfl, ⟨rfl, ⟨rfl, ⟨rfl, ⟨rfl, trivial⟩⟩⟩⟩⟩ ?_
                exact hj12 t4.1 t4.2.2 hf
              · refine xr_aload_n B dX11_awake_87 rfl rfl ?_
                refine xr_iload_n B dX11_awake_88 rfl rfl ?_
                refine xr_iload B dX11_awake_89 rfl ?_
                refine xr_cVv B (rest := []) [.int a1, .int t4.2.1] xm_X11_foretellsMany xv_X11_258 (fun q hq => xc_X11_foretellsMany l D ad ca t4.2.2 a1 t4.2.1 q hq) xh_49 rfl rfl (by decide) rfl (Nat.le_of_ble_eq_true rfl) dX11_awake_91 hf (fun s14 hf => ?_)
                refine xr_aload_n B dX11_awake_94 rfl rfl ?_
                refine xr_cVi B (rest := []) [] xm_X11_isCalm xv_X11_264 (fun q hq => xc_X11_isCalm l D ad ca s14 q hq) xh_49 rfl rfl (by decide) rfl (Nat.le_of_ble_eq_true rfl) dX11_awake_95 hf (fun v15 hf => ?_)
                refine xr_meet (fun (w16 : Int32) => J 107 [some (.ref (ad 49)), some (.int a1), some (.int a2), none, some (.int t4.2.1), none] [.int w16] s14) hf (fun w16 hf => ?_) (fun j17 hj17 hf => ?_)
                · refine xr_istore_n B (lv2 := [some (.ref (ad 49)), some (.int a1), some (.int a2), some (.int w16), some (.int t4.2.1), none]) dX11_awake_107 rfl (by decide) rfl ?_
                  exact hj12 w16 s14 hf
                · refine xr_if_eq B (tgt := 106) dX11_awake_98 (by decide) hf (fun _ hf => ?_) (fun _ hf => ?_)
                  · refine xr_iload_n B dX11_awake_106 rfl rfl ?_
                    refine xr_forget B (lv2 := [some (.ref (ad 49)), some (.int a1), some (.int a2), none, some (.int t4.2.1), none]) ⟨rfl, ⟨rfl, ⟨rfl, ⟨rfl, trivial⟩⟩⟩⟩ ?_
                    exact hj17 t4.1 hf
                  · refine xr_iload B dX11_awake_101 rfl ?_
                    refine xr_goto B (tgt := 107) dX11_awake_103 (by decide) ?_
                    refine xr_forget B (lv2 := [some (.ref (ad 49)), some (.int a1), some (.int a2), none, some (.int t4.2.1), none]) ⟨rfl, ⟨rfl, ⟨rfl, ⟨rfl, trivial⟩⟩⟩⟩ ?_
                    exact hj17 t4.2.1 hf
          · refine xr_if_ne B (tgt := 79) dX11_awake_55 (by decide) hf (fun _ hf => ?_) (fun _ hf => ?_)
            · refine xr_iload_n B dX11_awake_58 rfl rfl ?_
              refine xr_iconst B (v := (-1)) dX11_awake_59 (by decide) ?_
              refine xr_ic_eq B (tgt := 75) dX11_awake_60 (by decide) hf (fun _ hf => ?_) (fun _ hf => ?_)
              · refine xr_iconst B (v := 1) dX11_awake_75 (by decide) ?_
                refine xr_goto B (tgt := 80) dX11_awake_76 (by decide) ?_
                exact hj10 1 hf
              · refine xr_iload B dX11_awake_63 rfl ?_
                refine xr_cSi B (rest := []) [.int t4.2.1] xm_X11_ones xs_X11_261 (fun q hq => xc_X11_ones l D ad ca t4.2.2 t4.2.1 q hq) rfl (by decide) rfl (Nat.le_of_ble_eq_true rfl) dX11_awake_65 hf (fun v18 hf => ?_)
                refine xr_iload_n B dX11_awake_68 rfl rfl ?_
                refine xr_cSi B (rest := [.int v18]) [.int t4.1] xm_X11_ones xs_X11_261 (fun q hq => xc_X11_ones l D ad ca t4.2.2 t4.1 q hq) rfl (by decide) rfl (Nat.le_of_ble_eq_true rfl) dX11_awake_69 hf (fun v19 hf => ?_)
                refine xr_ic_ge B (tgt := 79) dX11_awake_72 (by decide) hf (fun _ hf => ?_) (fun _ hf => ?_)
                · refine xr_iconst B (v := 0) dX11_awake_79 (by decide) ?_
                  exact hj10 0 hf
                · refine xr_iconst B (v := 1) dX11_awake_75 (by decide) ?_
                  refine xr_goto B (tgt := 80) dX11_awake_76 (by decide) ?_
                  exact hj10 1 hf
            · refine xr_iconst B (v := 0) dX11_awake_79 (by decide) ?_
              exact hj10 0 hf

noncomputable def xf_X11_bite (σ : xr_S) (a1 : Int32) : Option (Int32 × xr_S) := (xf_X11_isDream σ a1).bind (fun v1 => if v1 = 0 then (some ((-1000000001), σ)) else (if (σ.1 49 28) = 8 then (some ((-1000000004), σ)) else (xr_st σ 61 8 (σ.1 49 28) a1 (fun s2 => xr_pf s2 49 28 ((s2.1 49 28) + 1) (fun s3 => some ((s3.1 49 28), s3))))))
set_option maxRecDepth 100000 in
set_option maxHeartbeats 4000000 in
theorem xc_X11_bite (l : Launch) (D : va_G) (ad : Nat → Nat) (ca : Nat → ClassId) (σ : xr_S) (a1 : Int32) (q : (Int32 × xr_S)) (hf : xf_X11_bite σ a1 = some q) : xr_M l D ad ca yX11_bite cX11_bite 2 (some .int) 2 46 [.ref (ad 49), .int a1] σ (some (.int q.1)) q.2 := by
  refine xr_openI [some (.ref (ad 49)), some (.int a1)] xm_X11_bite (Nat.le_of_ble_eq_true rfl) rfl (fun J B RR => ?_)
  unfold xf_X11_bite at hf
  refine xr_aload_n B dX11_bite_0 rfl rfl ?_
  refine xr_iload_n B dX11_bite_1 rfl rfl ?_
  refine xr_cVi B (rest := []) [.int a1] xm_X11_isDream xv_X11_189 (fun q hq => xc_X11_isDream l D ad ca σ a1 q hq) xh_49 rfl rfl (by decide) rfl (Nat.le_of_ble_eq_true rfl) dX11_bite_2 hf (fun v1 hf => ?_)
  refine xr_if_ne B (tgt := 11) dX11_bite_5 (by decide) hf (fun _ hf => ?_) (fun _ hf => ?_)
  · refine xr_ldc B xk_X11_192 dX11_bite_8 ?_
    obtain rfl := Option.some.inj hf
    exact RR _ _ _ dX11_bite_10 rfl
  · refine xr_aload_n B dX11_bite_11 rfl rfl ?_
    refine xr_getI B xg_X11_169 xh_49 rfl dX11_bite_12 ?_
    refine xr_bipush B (v := 8) dX11_bite_15 (by decide) ?_
    refine xr_ic_ne B (tgt := 23) dX11_bite_17 (by decide) hf (fun _ hf => ?_) (fun _ hf => ?_)
    · refine xr_ldc B xk_X11_92 dX11_bite_20 ?_
      obtain rfl := Option.some.inj hf
      exact RR _ _ _ dX11_bite_22 rfl
    · refine xr_aload_n B dX11_bite_23 rfl rfl ?_
      refine xr_getR B xg_X11_48 xh_49 rfl dX11_bite_24 ?_
      refine xr_aload_n B dX11_bite_27 rfl rfl ?_
      refine xr_getI B xg_X11_169 xh_49 rfl dX11_bite_28 ?_
      refine xr_iload_n B dX11_bite_31 rfl rfl ?_
      refine xq_iast B xh_61 dX11_bite_32 hf (fun s2 hf => ?_)
      refine xr_aload_n B dX11_bite_33 rfl rfl ?_
      refine xr_dup B dX11_bite_34 rfl ?_
      refine xr_getI B xg_X11_169 xh_49 rfl dX11_bite_35 ?_
      refine xr_iconst B (v := 1) dX11_bite_38 (by decide) ?_
      refine xr_iadd B dX11_bite_39 ?_
      refine xq_put B xp_X11_169 rfl rfl xh_49 rfl dX11_bite_40 hf (fun s3 hf => ?_)
      refine xr_aload_n B dX11_bite_43 rfl rfl ?_
      refine xr_getI B xg_X11_169 xh_49 rfl dX11_bite_44 ?_
      obtain rfl := Option.some.inj hf
      exact RR _ _ _ dX11_bite_47 rfl

noncomputable def xf_X11_mayBe_L17 (σ : xr_S) (t1 : (Int32 × Int32)) (K8 : Int32 → Option Int32) (t5 : (Int32 × Int32)) (rec6 : (Int32 × Int32) → Option Int32) : Option Int32 := if (σ.1 49 28) ≤ t5.2 then (K8 t5.1) else (xr_jn (fun (w9 : Int32) => rec6 (w9, (t5.2 + 1))) (fun j10 => if t5.1 = 0 then (j10 0) else (xr_ld σ 61 8 t5.2 (fun v12 => (xf_X11_weightOf σ 0 t1.2 v12).bind (fun v13 => if v13 ≤ 0 then (j10 0) else (j10 1))))))
noncomputable def xf_X11_mayBe_L4 (σ : xr_S) (K4 : Int32 → Option Int32) (t1 : (Int32 × Int32)) (rec2 : (Int32 × Int32) → Option Int32) : Option Int32 := if (σ.1 49 4) ≤ t1.2 then (K4 t1.1) else (xr_lw (xf_X11_mayBe_L17 σ t1 (fun (e7 : Int32) => xr_jn (fun (w14 : Int32) => xr_v ((t1.1 ||| w14)) (fun v16 => rec2 (v16, (t1.2 + 1)))) (fun j15 => if e7 = 0 then (j15 0) else (j15 ((1 : Int32) <<< (t1.2 &&& 31)))))) (1, 0))
noncomputable def xf_X11_mayBe (σ : xr_S) : Option Int32 := xr_lw (xf_X11_mayBe_L4 σ (fun (e3 : Int32) => some e3)) (0, 0)
set_option maxRecDepth 100000 in
set_option maxHeartbeats 4000000 in
theorem xc_X11_mayBe (l : Launch) (D : va_G) (ad : Nat → Nat) (ca : Nat → ClassId) (σ : xr_S) (q : Int32) (hf : xf_X11_mayBe σ = some q) : xr_M l D ad ca yX11_mayBe cX11_mayBe 5 (some .int) 1 23 [.ref (ad 49)] σ (some (.int q)) σ := by
  refine xr_openI [some (.ref (ad 49)), none, none, none, none] xm_X11_mayBe (Nat.le_of_ble_eq_true rfl) rfl (fun J B RR => ?_)
  unfold xf_X11_mayBe at hf
  refine xr_iconst B (v := 0) dX11_mayBe_0 (by decide) ?_
  refine xr_istore_n B (lv2 := [some (.ref (ad 49)), some (.int 0), none, none, none]) dX11_mayBe_1 rfl (by decide) rfl ?_
  refine xr_iconst B (v := 0) dX11_mayBe_2 (by decide) ?_
  refine xr_istore_n B (lv2 := [some (.ref (ad 49)), some (.int 0), some (.int 0), none, none]) dX11_mayBe_3 rfl (by decide) rfl ?_
  refine xq_loop (fun (t1 : (Int32 × Int32)) => J 4 [some (.ref (ad 49)), some (.int t1.1), some (.int t1.2), none, none] [] σ) (fun (e3 : Int32) => J 78 [none, some (.int e3), none, none, none] [] σ) hf (fun e3 hf => ?_) (fun K4 hK4 t1 rec2 hrec2 hf => ?_)
  · refine xr_iload_n B dX11_mayBe_78 rfl rfl ?_
    obtain rfl := Option.some.inj hf
    exact RR _ _ _ dX11_mayBe_79 rfl
  · have hrec2 : ∀ (b1 : Int32) (b2 : Int32), rec2 (b1, b2) = some q → J 4 [some (.ref (ad 49)), some (.int b1), some (.int b2), none, none] [] σ := fun b1 b2 h => hrec2 (b1, b2) h
    unfold xf_X11_mayBe_L4 at hf
    refine xr_iload_n B dX11_mayBe_4 rfl rfl ?_
    refine xr_aload_n B dX11_mayBe_5 rfl rfl ?_
    refine xr_getI B xg_X11_73 xh_49 rfl dX11_mayBe_6 ?_
    refine xr_ic_ge B (tgt := 78) dX11_mayBe_9 (by decide) hf (fun _ hf => ?_) (fun _ hf => ?_)
    · refine xr_forget B (lv2 := [none, some (.int t1.1), none, none, none]) ⟨rfl, trivial⟩ ?_
      exact hK4 t1.1 hf
    · refine xr_iconst B (v := 1) dX11_mayBe_12 (by decide) ?_
      refine xr_istore_n B (lv2 := [some (.ref (ad 49)), some (.int t1.1), some (.int t1.2), some (.int 1), none]) dX11_mayBe_13 rfl (by decide) rfl ?_
      refine xr_iconst B (v := 0) dX11_mayBe_14 (by decide) ?_
      refine xr_istore B (lv2 := [some (.ref (ad 49)), some (.int t1.1), some (.int t1.2), some (.int 1), some (.int 0)]) dX11_mayBe_15 (by decide) rfl ?_
      refine xq_loop (fun (t5 : (Int32 × Int32)) => J 17 [some (.ref (ad 49)), some (.int t1.1), some (.int t1.2), some (.int t5.1), some (.int t5.2)] [] σ) (fun (e7 : Int32) => J 58 [some (.ref (ad 49)), some (.int t1.1), some (.int t1.2), some (.int e7), none] [] σ) hf (fun e7 hf => ?_) (fun K8 hK8 t5 rec6 hrec6 hf => ?_)
      · refine xr_iload_n B dX11_mayBe_58 rfl rfl ?_
        refine xr_iload_n B dX11_mayBe_59 rfl rfl ?_
        refine xr_meet (fun (w14 : Int32) => J 70 [some (.ref (ad 49)), none, some (.int t1.2), none, none] [.int w14, .int t1.1] σ) hf (fun w14 hf => ?_) (fun j15 hj15 hf => ?_)
        · refine xr_ior B dX11_mayBe_70 ?_
          refine xr_top _ hf (fun v16 hf => ?_)
          refine xr_istore_n B (lv2 := [some (.ref (ad 49)), some (.int v16), some (.int t1.2), none, none]) dX11_mayBe_71 rfl (by decide) rfl ?_
          refine xr_iinc B (v := (t1.2 + 1)) (lv2 := [some (.ref (ad 49)), some (.int v16), some (.int (t1.2 + 1)), none, none]) dX11_mayBe_72 rfl (congrArg (t1.2 + ·) (by decide : Int32.ofInt (1) = 1)) (by decide) rfl ?_
          refine xr_goto B (tgt := 4) dX11_mayBe_75 (by decide) ?_
          exact hrec2 v16 (t1.2 + 1) hf
        · refine xr_if_eq B (tgt := 69) dX11_mayBe_60 (by decide) hf (fun _ hf => ?_) (fun _ hf => ?_)
          · refine xr_iconst B (v := 0) dX11_mayBe_69 (by decide) ?_
            refine xr_forget B (lv2 := [some (.ref (ad 49)), none, some (.int t1.2), none, none]) ⟨rfl, ⟨rfl, trivial⟩⟩ ?_
            exact hj15 0 hf
          · refine xr_iconst B (v := 1) dX11_mayBe_63 (by decide) ?_
            refine xr_iload_n B dX11_mayBe_64 rfl rfl ?_
            refine xr_ishl B dX11_mayBe_65 ?_
            refine xr_goto B (tgt := 70) dX11_mayBe_66 (by decide) ?_
            refine xr_forget B (lv2 := [some (.ref (ad 49)), none, some (.int t1.2), none, none]) ⟨rfl, ⟨rfl, trivial⟩⟩ ?_
            exact hj15 ((1 : Int32) <<< (t1.2 &&& 31)) hf
      · have hrec6 : ∀ (b1 : Int32) (b2 : Int32), rec6 (b1, b2) = some q → J 17 [some (.ref (ad 49)), some (.int t1.1), some (.int t1.2), some (.int b1), some (.int b2)] [] σ := fun b1 b2 h => hrec6 (b1, b2) h
        unfold xf_X11_mayBe_L17 at hf
        refine xr_iload B dX11_mayBe_17 rfl ?_
        refine xr_aload_n B dX11_mayBe_19 rfl rfl ?_
        refine xr_getI B xg_X11_169 xh_49 rfl dX11_mayBe_20 ?_
        refine xr_ic_ge B (tgt := 58) dX11_mayBe_23 (by decide) hf (fun _ hf => ?_) (fun _ hf => ?_)
        · refine xr_forget B (lv2 := [some (.ref (ad 49)), some (.int t1.1), some (.int t1.2), some (.int t5.1), none]) ⟨rfl, ⟨rfl, ⟨rfl, ⟨rfl, trivial⟩⟩⟩⟩ ?_
          exact hK8 t5.1 hf
        · refine xr_iload_n B dX11_mayBe_26 rfl rfl ?_
          refine xr_meet (fun (w9 : Int32) => J 51 [some (.ref (ad 49)), some (.int t1.1), some (.int t1.2), none, some (.int t5.2)] [.int w9] σ) hf (fun w9 hf => ?_) (fun j10 hj10 hf => ?_)
          · refine xr_istore_n B (lv2 := [some (.ref (ad 49)), some (.int t1.1), some (.int t1.2), some (.int w9), some (.int t5.2)]) dX11_mayBe_51 rfl (by decide) rfl ?_
            refine xr_iinc B (v := (t5.2 + 1)) (lv2 := [some (.ref (ad 49)), some (.int t1.1), some (.int t1.2), some (.int w9), some (.int (t5.2 + 1))]) dX11_mayBe_52 rfl (congrArg (t5.2 + ·) (by decide : Int32.ofInt (1) = 1)) (by decide) rfl ?_
            refine xr_goto B (tgt := 17) dX11_mayBe_55 (by decide) ?_
            exact hrec6 w9 (t5.2 + 1) hf
          · refine xr_if_eq B (tgt := 50) dX11_mayBe_27 (by decide) hf (fun _ hf => ?_) (fun _ hf => ?_)
            · refine xr_iconst B (v := 0) dX11_mayBe_50 (by decide) ?_
              refine xr_forget B (lv2 := [some (.ref (ad 49)), some (.int t1.1), some (.int t1.2), none, some (.int t5.2)]) ⟨rfl, ⟨rfl, ⟨rfl, ⟨rfl, trivial⟩⟩⟩⟩ ?_
              exact hj10 0 hf
            · refine xr_aload_n B dX11_mayBe_30 rfl rfl ?_
              refine xr_iconst B (v := 0) dX11_mayBe_31 (by decide) ?_
              refine xr_iload_n B dX11_mayBe_32 rfl rfl ?_
              refine xr_aload_n B dX11_mayBe_33 rfl rfl ?_
              refine xr_getR B xg_X11_48 xh_49 rfl dX11_mayBe_34 ?_
              refine xr_iload B dX11_mayBe_37 rfl ?_
              refine xq_iald B xh_61 dX11_mayBe_39 hf (fun v12 hf => ?_)
              refine xr_cVi B (rest := []) [.int 0, .int t1.2, .int v12] xm_X11_weightOf xv_X11_182 (fun q hq => xc_X11_weightOf l D ad ca σ 0 t1.2 v12 q hq) xh_49 rfl rfl (by decide) rfl (Nat.le_of_ble_eq_true rfl) dX11_mayBe_40 hf (fun v13 hf => ?_)
              refine xr_if_le B (tgt := 50) dX11_mayBe_43 (by decide) hf (fun _ hf => ?_) (fun _ hf => ?_)
              · refine xr_iconst B (v := 0) dX11_mayBe_50 (by decide) ?_
                refine xr_forget B (lv2 := [some (.ref (ad 49)), some (.int t1.1), some (.int t1.2), none, some (.int t5.2)]) ⟨rfl, ⟨rfl, ⟨rfl, ⟨rfl, trivial⟩⟩⟩⟩ ?_
                exact hj10 0 hf
              · refine xr_iconst B (v := 1) dX11_mayBe_46 (by decide) ?_
                refine xr_goto B (tgt := 51) dX11_mayBe_47 (by decide) ?_
                refine xr_forget B (lv2 := [some (.ref (ad 49)), some (.int t1.1), some (.int t1.2), none, some (.int t5.2)]) ⟨rfl, ⟨rfl, ⟨rfl, ⟨rfl, trivial⟩⟩⟩⟩ ?_
                exact hj10 1 hf

noncomputable def xf_X11_partOf_L7 (σ : xr_S) (a1 : Int32) (K4 : Int64 → Option Int64) (t1 : (Int64 × Int32)) (rec2 : (Int64 × Int32) → Option Int64) : Option Int64 := if (σ.1 49 28) ≤ t1.2 then (K4 t1.1) else (xr_ld σ 61 8 t1.2 (fun v5 => (xf_X11_weightOf σ 0 a1 v5).bind (fun v6 => (xf_X11_allOf σ 0 a1).bind (fun v7 => xr_nl (Int32.toInt64 v7) (xr_v (((t1.1 * (Int32.toInt64 v6)) / (Int32.toInt64 v7))) (fun v8 => rec2 (v8, (t1.2 + 1))))))))
noncomputable def xf_X11_partOf (σ : xr_S) (a1 : Int32) : Option Int64 := xr_lw (xf_X11_partOf_L7 σ a1 (fun (e3 : Int64) => some e3)) (1000000000, 0)
set_option maxRecDepth 100000 in
set_option maxHeartbeats 4000000 in
theorem xc_X11_partOf (l : Launch) (D : va_G) (ad : Nat → Nat) (ca : Nat → ClassId) (σ : xr_S) (a1 : Int32) (q : Int64) (hf : xf_X11_partOf σ a1 = some q) : xr_M l D ad ca yX11_partOf cX11_partOf 5 (some .long) 2 47 [.ref (ad 49), .int a1] σ (some (.long q)) σ := by
  refine xr_openL [some (.ref (ad 49)), some (.int a1), none, none, none] xm_X11_partOf (Nat.le_of_ble_eq_true rfl) rfl (fun J B RR => ?_)
  unfold xf_X11_partOf at hf
  refine xr_ldc2 B xl_X11_267 dX11_partOf_0 ?_
  refine xr_lstore_n B (lv2 := [some (.ref (ad 49)), some (.int a1), some (.long 1000000000), none, none]) dX11_partOf_3 rfl (by decide) rfl ?_
  refine xr_iconst B (v := 0) dX11_partOf_4 (by decide) ?_
  refine xr_istore B (lv2 := [some (.ref (ad 49)), some (.int a1), some (.long 1000000000), none, some (.int 0)]) dX11_partOf_5 (by decide) rfl ?_
  refine xq_loop (fun (t1 : (Int64 × Int32)) => J 7 [some (.ref (ad 49)), some (.int a1), some (.long t1.1), none, some (.int t1.2)] [] σ) (fun (e3 : Int64) => J 47 [none, none, some (.long e3), none, none] [] σ) hf (fun e3 hf => ?_) (fun K4 hK4 t1 rec2 hrec2 hf => ?_)
  · refine xr_lload_n B dX11_partOf_47 rfl rfl ?_
    obtain rfl := Option.some.inj hf
    exact RR _ _ _ dX11_partOf_48 rfl
  · have hrec2 : ∀ (b1 : Int64) (b2 : Int32), rec2 (b1, b2) = some q → J 7 [some (.ref (ad 49)), some (.int a1), some (.long b1), none, some (.int b2)] [] σ := fun b1 b2 h => hrec2 (b1, b2) h
    unfold xf_X11_partOf_L7 at hf
    refine xr_iload B dX11_partOf_7 rfl ?_
    refine xr_aload_n B dX11_partOf_9 rfl rfl ?_
    refine xr_getI B xg_X11_169 xh_49 rfl dX11_partOf_10 ?_
    refine xr_ic_ge B (tgt := 47) dX11_partOf_13 (by decide) hf (fun _ hf => ?_) (fun _ hf => ?_)
    · refine xr_forget B (lv2 := [none, none, some (.long t1.1), none, none]) ⟨rfl, trivial⟩ ?_
      exact hK4 t1.1 hf
    · refine xr_lload_n B dX11_partOf_16 rfl rfl ?_
      refine xr_aload_n B dX11_partOf_17 rfl rfl ?_
      refine xr_iconst B (v := 0) dX11_partOf_18 (by decide) ?_
      refine xr_iload_n B dX11_partOf_19 rfl rfl ?_
      refine xr_aload_n B dX11_partOf_20 rfl rfl ?_
      refine xr_getR B xg_X11_48 xh_49 rfl dX11_partOf_21 ?_
      refine xr_iload B dX11_partOf_24 rfl ?_
      refine xq_iald B xh_61 dX11_partOf_26 hf (fun v5 hf => ?_)
      refine xr_cVi B (rest := [.long t1.1]) [.int 0, .int a1, .int v5] xm_X11_weightOf xv_X11_182 (fun q hq => xc_X11_weightOf l D ad ca σ 0 a1 v5 q hq) xh_49 rfl rfl (by decide) rfl (Nat.le_of_ble_eq_true rfl) dX11_partOf_27 hf (fun v6 hf => ?_)
      refine xr_i2l B dX11_partOf_30 ?_
      refine xr_lmul B dX11_partOf_31 ?_
      refine xr_aload_n B dX11_partOf_32 rfl rfl ?_
      refine xr_iconst B (v := 0) dX11_partOf_33 (by decide) ?_
      refine xr_iload_n B dX11_partOf_34 rfl rfl ?_
      refine xr_cVi B (rest := [.long (t1.1 * (Int32.toInt64 v6))]) [.int 0, .int a1] xm_X11_allOf xv_X11_193 (fun q hq => xc_X11_allOf l D ad ca σ 0 a1 q hq) xh_49 rfl rfl (by decide) rfl (Nat.le_of_ble_eq_true rfl) dX11_partOf_35 hf (fun v7 hf => ?_)
      refine xr_i2l B dX11_partOf_38 ?_
      refine xr_ldiv B dX11_partOf_39 hf (fun hf => ?_)
      refine xr_topl _ hf (fun v8 hf => ?_)
      refine xr_lstore_n B (lv2 := [some (.ref (ad 49)), some (.int a1), some (.long v8), none, some (.int t1.2)]) dX11_partOf_40 rfl (by decide) rfl ?_
      refine xr_iinc B (v := (t1.2 + 1)) (lv2 := [some (.ref (ad 49)), some (.int a1), some (.long v8), none, some (.int (t1.2 + 1))]) dX11_partOf_41 rfl (congrArg (t1.2 + ·) (by decide : Int32.ofInt (1) = 1)) (by decide) rfl ?_
      refine xr_goto B (tgt := 7) dX11_partOf_44 (by decide) ?_
      exact hrec2 v8 (t1.2 + 1) hf

noncomputable def xf_X11_whose_L7 (σ : xr_S) (K4 : Int32 → Option Int32) (t1 : (Int32 × Int64 × Int32)) (rec2 : (Int32 × Int64 × Int32) → Option Int32) : Option Int32 := if (σ.1 49 4) ≤ t1.2.2 then (K4 t1.1) else ((xf_X11_partOf σ t1.2.2).bind (fun v5 => xr_jn (fun (w6 : Int32) => xr_jn (fun (w8 : Int64) => rec2 (w6, w8, (t1.2.2 + 1))) (fun j9 => if (lg_cmp v5 t1.2.1) ≤ 0 then (j9 t1.2.1) else (j9 v5))) (fun j7 => if (lg_cmp v5 t1.2.1) ≤ 0 then (j7 t1.1) else (j7 t1.2.2))))
noncomputable def xf_X11_whose (σ : xr_S) : Option Int32 := xr_lw (xf_X11_whose_L7 σ (fun (e3 : Int32) => some e3)) ((-1), 0, 0)
set_option maxRecDepth 100000 in
set_option maxHeartbeats 4000000 in
theorem xc_X11_whose (l : Launch) (D : va_G) (ad : Nat → Nat) (ca : Nat → ClassId) (σ : xr_S) (q : Int32) (hf : xf_X11_whose σ = some q) : xr_M l D ad ca yX11_whose cX11_whose 7 (some .int) 3 71 [.ref (ad 49)] σ (some (.int q)) σ := by
  refine xr_openI [some (.ref (ad 49)), none, none, none, none, none, none] xm_X11_whose (Nat.le_of_ble_eq_true rfl) rfl (fun J B RR => ?_)
  unfold xf_X11_whose at hf
  refine xr_iconst B (v := (-1)) dX11_whose_0 (by decide) ?_
  refine xr_istore_n B (lv2 := [some (.ref (ad 49)), some (.int (-1)), none, none, none, none, none]) dX11_whose_1 rfl (by decide) rfl ?_
  refine xr_lconst B (v := 0) dX11_whose_2 (by decide) ?_
  refine xr_lstore_n B (lv2 := [some (.ref (ad 49)), some (.int (-1)), some (.long 0), none, none, none, none]) dX11_whose_3 rfl (by decide) rfl ?_
  refine xr_iconst B (v := 0) dX11_whose_4 (by decide) ?_
  refine xr_istore B (lv2 := [some (.ref (ad 49)), some (.int (-1)), some (.long 0), none, some (.int 0), none, none]) dX11_whose_5 (by decide) rfl ?_
  refine xq_loop (fun (t1 : (Int32 × Int64 × Int32)) => J 7 [some (.ref (ad 49)), some (.int t1.1), some (.long t1.2.1), none, some (.int t1.2.2), none, none] [] σ) (fun (e3 : Int32) => J 58 [none, some (.int e3), none, none, none, none, none] [] σ) hf (fun e3 hf => ?_) (fun K4 hK4 t1 rec2 hrec2 hf => ?_)
  · refine xr_iload_n B dX11_whose_58 rfl rfl ?_
    obtain rfl := Option.some.inj hf
    exact RR _ _ _ dX11_whose_59 rfl
  · have hrec2 : ∀ (b1 : Int32) (b2 : Int64) (b3 : Int32), rec2 (b1, b2, b3) = some q → J 7 [some (.ref (ad 49)), some (.int b1), some (.long b2), none, some (.int b3), none, none] [] σ := fun b1 b2 b3 h => hrec2 (b1, b2, b3) h
    unfold xf_X11_whose_L7 at hf
    refine xr_iload B dX11_whose_7 rfl ?_
    refine xr_aload_n B dX11_whose_9 rfl rfl ?_
    refine xr_getI B xg_X11_73 xh_49 rfl dX11_whose_10 ?_
    refine xr_ic_ge B (tgt := 58) dX11_whose_13 (by decide) hf (fun _ hf => ?_) (fun _ hf => ?_)
    · refine xr_forget B (lv2 := [none, some (.int t1.1), none, none, none, none, none]) ⟨rfl, trivial⟩ ?_
      exact hK4 t1.1 hf
    · refine xr_aload_n B dX11_whose_16 rfl rfl ?_
      refine xr_iload B dX11_whose_17 rfl ?_
      refine xr_cVl B (rest := []) [.int t1.2.2] xm_X11_partOf xv_X11_269 (fun q hq => xc_X11_partOf l D ad ca σ t1.2.2 q hq) xh_49 rfl rfl (by decide) rfl (Nat.le_of_ble_eq_true rfl) dX11_whose_19 hf (fun v5 hf => ?_)
      refine xr_lstore B (lv2 := [some (.ref (ad 49)), some (.int t1.1), some (.long t1.2.1), none, some (.int t1.2.2), some (.long v5), none]) dX11_whose_22 (by decide) rfl ?_
      refine xr_lload B dX11_whose_24 rfl ?_
      refine xr_lload_n B dX11_whose_26 rfl rfl ?_
      refine xr_lcmp B dX11_whose_27 ?_
      refine xr_meet (fun (w6 : Int32) => J 37 [some (.ref (ad 49)), none, some (.long t1.2.1), none, some (.int t1.2.2), some (.long v5), none] [.int w6] σ) hf (fun w6 hf => ?_) (fun j7 hj7 hf => ?_)
      · refine xr_istore_n B (lv2 := [some (.ref (ad 49)), some (.int w6), some (.long t1.2.1), none, some (.int t1.2.2), some (.long v5), none]) dX11_whose_37 rfl (by decide) rfl ?_
        refine xr_lload B dX11_whose_38 rfl ?_
        refine xr_lload_n B dX11_whose_40 rfl rfl ?_
        refine xr_lcmp B dX11_whose_41 ?_
        refine xr_meet (fun (w8 : Int64) => J 51 [some (.ref (ad 49)), some (.int w6), none, none, some (.int t1.2.2), none, none] [.long w8] σ) hf (fun w8 hf => ?_) (fun j9 hj9 hf => ?_)
        · refine xr_lstore_n B (lv2 := [some (.ref (ad 49)), some (.int w6), some (.long w8), none, some (.int t1.2.2), none, none]) dX11_whose_51 rfl (by decide) rfl ?_
          refine xr_iinc B (v := (t1.2.2 + 1)) (lv2 := [some (.ref (ad 49)), some (.int w6), some (.long w8), none, some (.int (t1.2.2 + 1)), none, none]) dX11_whose_52 rfl (congrArg (t1.2.2 + ·) (by decide : Int32.ofInt (1) = 1)) (by decide) rfl ?_
          refine xr_goto B (tgt := 7) dX11_whose_55 (by decide) ?_
          exact hrec2 w6 w8 (t1.2.2 + 1) hf
        · refine xr_if_le B (tgt := 50) dX11_whose_42 (by decide) hf (fun _ hf => ?_) (fun _ hf => ?_)
          · refine xr_lload_n B dX11_whose_50 rfl rfl ?_
            refine xr_forget B (lv2 := [some (.ref (ad 49)), some (.int w6), none, none, some (.int t1.2.2), none, none]) ⟨rfl, ⟨rfl, ⟨rfl, trivial⟩⟩⟩ ?_
            exact hj9 t1.2.1 hf
          · refine xr_lload B dX11_whose_45 rfl ?_
            refine xr_goto B (tgt := 51) dX11_whose_47 (by decide) ?_
            refine xr_forget B (lv2 := [some (.ref (ad 49)), some (.int w6), none, none, some (.int t1.2.2), none, none]) ⟨rfl, ⟨rfl, ⟨rfl, trivial⟩⟩⟩ ?_
            exact hj9 v5 hf
      · refine xr_if_le B (tgt := 36) dX11_whose_28 (by decide) hf (fun _ hf => ?_) (fun _ hf => ?_)
        · refine xr_iload_n B dX11_whose_36 rfl rfl ?_
          refine xr_forget B (lv2 := [some (.ref (ad 49)), none, some (.long t1.2.1), none, some (.int t1.2.2), some (.long v5), none]) ⟨rfl, ⟨rfl, ⟨rfl, ⟨rfl, trivial⟩⟩⟩⟩ ?_
          exact hj7 t1.1 hf
        · refine xr_iload B dX11_whose_31 rfl ?_
          refine xr_goto B (tgt := 37) dX11_whose_33 (by decide) ?_
          refine xr_forget B (lv2 := [some (.ref (ad 49)), none, some (.long t1.2.1), none, some (.int t1.2.2), some (.long v5), none]) ⟨rfl, ⟨rfl, ⟨rfl, ⟨rfl, trivial⟩⟩⟩⟩ ?_
          exact hj7 t1.2.2 hf

noncomputable def xf_X11_howLikely_L16 (σ : xr_S) (K5 : Int64 → Option Int32) (t2 : (Int64 × Int32)) (rec3 : (Int64 × Int32) → Option Int32) : Option Int32 := if (σ.1 49 4) ≤ t2.2 then (K5 t2.1) else ((xf_X11_partOf σ t2.2).bind (fun v6 => xr_v ((t2.1 + v6)) (fun v7 => rec3 (v7, (t2.2 + 1)))))
noncomputable def xf_X11_howLikely (σ : xr_S) (a1 : Int32) : Option Int32 := (xf_X11_isSleeper σ a1).bind (fun v1 => if v1 = 0 then (some (-1000000001)) else (xr_lw (xf_X11_howLikely_L16 σ (fun (e4 : Int64) => if (lg_cmp e4 0) = 0 then (some 0) else ((xf_X11_partOf σ a1).bind (fun v9 => xr_nl e4 (some (Int64.toInt32 ((v9 * 1000000) / e4))))))) (0, 0)))
set_option maxRecDepth 100000 in
set_option maxHeartbeats 4000000 in
theorem xc_X11_howLikely (l : Launch) (D : va_G) (ad : Nat → Nat) (ca : Nat → ClassId) (σ : xr_S) (a1 : Int32) (q : Int32) (hf : xf_X11_howLikely σ a1 = some q) : xr_M l D ad ca yX11_howLikely cX11_howLikely 5 (some .int) 3 71 [.ref (ad 49), .int a1] σ (some (.int q)) σ := by
  refine xr_openI [some (.ref (ad 49)), some (.int a1), none, none, none] xm_X11_howLikely (Nat.le_of_ble_eq_true rfl) rfl (fun J B RR => ?_)
  unfold xf_X11_howLikely at hf
  refine xr_aload_n B dX11_howLikely_0 rfl rfl ?_
  refine xr_iload_n B dX11_howLikely_1 rfl rfl ?_
  refine xr_cVi B (rest := []) [.int a1] xm_X11_isSleeper xv_X11_186 (fun q hq => xc_X11_isSleeper l D ad ca σ a1 q hq) xh_49 rfl rfl (by decide) rfl (Nat.le_of_ble_eq_true rfl) dX11_howLikely_2 hf (fun v1 hf => ?_)
  refine xr_if_ne B (tgt := 11) dX11_howLikely_5 (by decide) hf (fun _ hf => ?_) (fun _ hf => ?_)
  · refine xr_ldc B xk_X11_192 dX11_howLikely_8 ?_
    obtain rfl := Option.some.inj hf
    exact RR _ _ _ dX11_howLikely_10 rfl
  · refine xr_lconst B (v := 0) dX11_howLikely_11 (by decide) ?_
    refine xr_lstore_n B (lv2 := [some (.ref (ad 49)), some (.int a1), some (.long 0), none, none]) dX11_howLikely_12 rfl (by decide) rfl ?_
    refine xr_iconst B (v := 0) dX11_howLikely_13 (by decide) ?_
    refine xr_istore B (lv2 := [some (.ref (ad 49)), some (.int a1), some (.long 0), none, some (.int 0)]) dX11_howLikely_14 (by decide) rfl ?_
    refine xq_loop (fun (t2 : (Int64 × Int32)) => J 16 [some (.ref (ad 49)), some (.int a1), some (.long t2.1), none, some (.int t2.2)] [] σ) (fun (e4 : Int64) => J 40 [some (.ref (ad 49)), some (.int a1), some (.long e4), none, none] [] σ) hf (fun e4 hf => ?_) (fun K5 hK5 t2 rec3 hrec3 hf => ?_)
    · refine xr_lload_n B dX11_howLikely_40 rfl rfl ?_
      refine xr_lconst B (v := 0) dX11_howLikely_41 (by decide) ?_
      refine xr_lcmp B dX11_howLikely_42 ?_
      refine xr_if_ne B (tgt := 50) dX11_howLikely_43 (by decide) hf (fun _ hf => ?_) (fun _ hf => ?_)
      · refine xr_iconst B (v := 0) dX11_howLikely_46 (by decide) ?_
        refine xr_goto B (tgt := 62) dX11_howLikely_47 (by decide) ?_
        obtain rfl := Option.some.inj hf
        exact RR _ _ _ dX11_howLikely_62 rfl
      · refine xr_aload_n B dX11_howLikely_50 rfl rfl ?_
        refine xr_iload_n B dX11_howLikely_51 rfl rfl ?_
        refine xr_cVl B (rest := []) [.int a1] xm_X11_partOf xv_X11_269 (fun q hq => xc_X11_partOf l D ad ca σ a1 q hq) xh_49 rfl rfl (by decide) rfl (Nat.le_of_ble_eq_true rfl) dX11_howLikely_52 hf (fun v9 hf => ?_)
        refine xr_ldc2 B xl_X11_203 dX11_howLikely_55 ?_
        refine xr_lmul B dX11_howLikely_58 ?_
        refine xr_lload_n B dX11_howLikely_59 rfl rfl ?_
        refine xr_ldiv B dX11_howLikely_60 hf (fun hf => ?_)
        refine xr_l2i B dX11_howLikely_61 ?_
        obtain rfl := Option.some.inj hf
        exact RR _ _ _ dX11_howLikely_62 rfl
    · have hrec3 : ∀ (b1 : Int64) (b2 : Int32), rec3 (b1, b2) = some q → J 16 [some (.ref (ad 49)), some (.int a1), some (.long b1), none, some (.int b2)] [] σ := fun b1 b2 h => hrec3 (b1, b2) h
      unfold xf_X11_howLikely_L16 at hf
      refine xr_iload B dX11_howLikely_16 rfl ?_
      refine xr_aload_n B dX11_howLikely_18 rfl rfl ?_
      refine xr_getI B xg_X11_73 xh_49 rfl dX11_howLikely_19 ?_
      refine xr_ic_ge B (tgt := 40) dX11_howLikely_22 (by decide) hf (fun _ hf => ?_) (fun _ hf => ?_)
      · refine xr_forget B (lv2 := [some (.ref (ad 49)), some (.int a1), some (.long t2.1), none, none]) ⟨rfl, ⟨rfl, ⟨rfl, trivial⟩⟩⟩ ?_
        exact hK5 t2.1 hf
      · refine xr_lload_n B dX11_howLikely_25 rfl rfl ?_
        refine xr_aload_n B dX11_howLikely_26 rfl rfl ?_
        refine xr_iload B dX11_howLikely_27 rfl ?_
        refine xr_cVl B (rest := [.long t2.1]) [.int t2.2] xm_X11_partOf xv_X11_269 (fun q hq => xc_X11_partOf l D ad ca σ t2.2 q hq) xh_49 rfl rfl (by decide) rfl (Nat.le_of_ble_eq_true rfl) dX11_howLikely_29 hf (fun v6 hf => ?_)
        refine xr_ladd B dX11_howLikely_32 ?_
        refine xr_topl _ hf (fun v7 hf => ?_)
        refine xr_lstore_n B (lv2 := [some (.ref (ad 49)), some (.int a1), some (.long v7), none, some (.int t2.2)]) dX11_howLikely_33 rfl (by decide) rfl ?_
        refine xr_iinc B (v := (t2.2 + 1)) (lv2 := [some (.ref (ad 49)), some (.int a1), some (.long v7), none, some (.int (t2.2 + 1))]) dX11_howLikely_34 rfl (congrArg (t2.2 + ·) (by decide : Int32.ofInt (1) = 1)) (by decide) rfl ?_
        refine xr_goto B (tgt := 16) dX11_howLikely_37 (by decide) ?_
        exact hrec3 v7 (t2.2 + 1) hf
