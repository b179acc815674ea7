def xr_sc {α : Type} (L : Nat) (xs : Nat → Int32) (i : Int32) (k : Int32 → Option α) : Option α := if i < 0 ∨ L ≤ i.toNatClampNeg then none else k (xs i.toNatClampNeg)
/-- what the law's own script and its end give -/
def xl_S (L b : Nat) (xs : Nat → Int32) (J : Nat → List (Option Value) → List Value → xr_S → Prop) : Prop :=
  (∀ (pc : Nat) (lv : List (Option Value)) (st : List Value) (σ : xr_S) (i : Int32) (k : Int32 → Option Int32), decode cL_law pc = .ok (.iaload, 1) → xr_sc L xs i k = some 1 → (∀ v, k v = some 1 → J (pc + 1) lv (.int v :: st) σ) → J pc lv (.int i :: .ref b :: st) σ) ∧
  (∀ (pc : Nat) (lv : List (Option Value)) (st : List Value) (σ : xr_S), decode cL_law pc = .ok (.arraylength, 1) → J (pc + 1) lv (.int (nI L) :: st) σ → J pc lv (.ref b :: st) σ) ∧
  (∀ (pc : Nat) (lv : List (Option Value)) (σ : xr_S), decode cL_law pc = .ok (.ireturn, 1) → J pc lv [.int 1] σ)
noncomputable def xf_L_law_L18 (L : Nat) (xs : (Nat → Int32)) (K4 : xr_S → Option Int32) (t1 : (Int32 × xr_S)) (rec2 : (Int32 × xr_S) → Option Int32) : Option Int32 := if ((nI L) - 4) < t1.1 then (K4 t1.2) else (xr_sc L xs t1.1 (fun v5 => xr_jn (fun (w6 : xr_S) => rec2 ((t1.1 + 4), w6)) (fun j7 => xr_v ((v5 &&& 63)) (fun v9 => if v9 = 0 then (xr_sc L xs (t1.1 + 1) (fun v10 => (xf_X10_feed t1.2 v10).bind (fun p11 => xr_sc L xs (t1.1 + 1) (fun v12 => (xf_X11_feed p11.2 v12).bind (fun p13 => if p11.1 = p13.1 then (j7 p13.2) else (some 0)))))) else if v9 = 1 then ((xf_X10_street t1.2).bind (fun p14 => (xf_X11_street p14.2).bind (fun p15 => if p14.1 = p15.1 then (j7 p15.2) else (some 0)))) else if v9 = 2 then ((xf_X10_fault t1.2).bind (fun v16 => (xf_X11_fault t1.2).bind (fun v17 => if v16 = v17 then (j7 t1.2) else (some 0)))) else if v9 = 3 then (xr_sc L xs (t1.1 + 1) (fun v18 => (xf_X10_told t1.2 v18).bind (fun v19 => xr_sc L xs (t1.1 + 1) (fun v20 => (xf_X11_told t1.2 v20).bind (fun v21 => if v19 = v21 then (j7 t1.2) else (some 0)))))) else if v9 = 4 then (xr_sc L xs (t1.1 + 1) (fun v22 => xr_sc L xs (t1.1 + 2) (fun v23 => (xf_X10_weight t1.2 v22 v23).bind (fun v24 => xr_sc L xs (t1.1 + 1) (fun v25 => xr_sc L xs (t1.1 + 2) (fun v26 => (xf_X11_weight t1.2 v25 v26).bind (fun v27 => if v24 = v27 then (j7 t1.2) else (some 0)))))))) else if v9 = 5 then (xr_sc L xs (t1.1 + 1) (fun v28 => xr_sc L xs (t1.1 + 2) (fun v29 => xr_sc L xs (t1.1 + 3) (fun v30 => (xf_X10_odds t1.2 v28 v29 v30).bind (fun v31 => xr_sc L xs (t1.1 + 1) (fun v32 => xr_sc L xs (t1.1 + 2) (fun v33 => xr_sc L xs (t1.1 + 3) (fun v34 => (xf_X11_odds t1.2 v32 v33 v34).bind (fun v35 => if v31 = v35 then (j7 t1.2) else (some 0)))))))))) else if v9 = 6 then (xr_sc L xs (t1.1 + 1) (fun v36 => (xf_X10_likeliest t1.2 v36).bind (fun v37 => xr_sc L xs (t1.1 + 1) (fun v38 => (xf_X11_likeliest t1.2 v38).bind (fun v39 => if v37 = v39 then (j7 t1.2) else (some 0)))))) else if v9 = 7 then (xr_sc L xs (t1.1 + 1) (fun v40 => xr_sc L xs (t1.1 + 2) (fun v41 => (xf_X10_loaf t1.2 v40 v41).bind (fun v42 => xr_sc L xs (t1.1 + 1) (fun v43 => xr_sc L xs (t1.1 + 2) (fun v44 => (xf_X11_loaf t1.2 v43 v44).bind (fun v45 => if v42 = v45 then (j7 t1.2) else (some 0)))))))) else if v9 = 8 then (xr_sc L xs (t1.1 + 1) (fun v46 => xr_sc L xs (t1.1 + 2) (fun v47 => (xf_X10_worth t1.2 v46 v47).bind (fun v48 => xr_sc L xs (t1.1 + 1) (fun v49 => xr_sc L xs (t1.1 + 2) (fun v50 => (xf_X11_worth t1.2 v49 v50).bind (fun v51 => if v48 = v51 then (j7 t1.2) else (some 0)))))))) else if v9 = 9 then (xr_sc L xs (t1.1 + 1) (fun v52 => xr_sc L xs (t1.1 + 2) (fun v53 => (xf_X10_lay t1.2 v52 v53).bind (fun p54 => xr_sc L xs (t1.1 + 1) (fun v55 => xr_sc L xs (t1.1 + 2) (fun v56 => (xf_X11_lay p54.2 v55 v56).bind (fun p57 => if p54.1 = p57.1 then (j7 p57.2) else (some 0)))))))) else if v9 = 10 then (xr_sc L xs (t1.1 + 1) (fun v58 => (xf_X10_takeOff t1.2 v58).bind (fun p59 => xr_sc L xs (t1.1 + 1) (fun v60 => (xf_X11_takeOff p59.2 v60).bind (fun p61 => if p59.1 = p61.1 then (j7 p61.2) else (some 0)))))) else if v9 = 11 then (xr_sc L xs (t1.1 + 1) (fun v62 => xr_sc L xs (t1.1 + 2) (fun v63 => xr_jn (fun (w64 : Int32) => (xf_X10_wake t1.2 v62 w64).bind (fun p66 => xr_sc L xs (t1.1 + 1) (fun v67 => xr_sc L xs (t1.1 + 2) (fun v68 => xr_jn (fun (w69 : Int32) => (xf_X11_wake p66.2 v67 w69).bind (fun p71 => if p66.1 = p71.1 then (j7 p71.2) else (some 0))) (fun j70 => if v68 = 0 then (j70 0) else (j70 1)))))) (fun j65 => if v63 = 0 then (j65 0) else (j65 1))))) else if v9 = 12 then (xr_sc L xs (t1.1 + 1) (fun v72 => (xf_X10_night t1.2 v72).bind (fun p73 => xr_sc L xs (t1.1 + 1) (fun v74 => (xf_X11_night p73.2 v74).bind (fun p75 => if p73.1 = p75.1 then (j7 p75.2) else (some 0)))))) else if v9 = 13 then (xr_sc L xs (t1.1 + 1) (fun v76 => (xf_X10_eat t1.2 v76).bind (fun p77 => xr_sc L xs (t1.1 + 1) (fun v78 => (xf_X11_eat p77.2 v78).bind (fun p79 => if p77.1 = p79.1 then (j7 p79.2) else (some 0)))))) else if v9 = 14 then (xr_sc L xs (t1.1 + 1) (fun v80 => (xf_X10_salt t1.2 v80).bind (fun p81 => xr_sc L xs (t1.1 + 1) (fun v82 => (xf_X11_salt p81.2 v82).bind (fun p83 => if p81.1 = p83.1 then (j7 p83.2) else (some 0)))))) else if v9 = 15 then (xr_sc L xs (t1.1 + 1) (fun v84 => (xf_X10_beds t1.2 v84).bind (fun p85 => xr_sc L xs (t1.1 + 1) (fun v86 => (xf_X11_beds p85.2 v86).bind (fun p87 => if p85.1 = p87.1 then (j7 p87.2) else (some 0)))))) else if v9 = 16 then (xr_sc L xs (t1.1 + 1) (fun v88 => xr_sc L xs (t1.1 + 2) (fun v89 => (xf_X10_feedings t1.2 v88 v89).bind (fun p90 => xr_sc L xs (t1.1 + 1) (fun v91 => xr_sc L xs (t1.1 + 2) (fun v92 => (xf_X11_feedings p90.2 v91 v92).bind (fun p93 => if p90.1 = p93.1 then (j7 p93.2) else (some 0)))))))) else if v9 = 17 then (xr_sc L xs (t1.1 + 1) (fun v94 => xr_sc L xs (t1.1 + 2) (fun v95 => xr_sc L xs (t1.1 + 3) (fun v96 => (xf_X10_foretold t1.2 v94 v95 v96).bind (fun p97 => xr_sc L xs (t1.1 + 1) (fun v98 => xr_sc L xs (t1.1 + 2) (fun v99 => xr_sc L xs (t1.1 + 3) (fun v100 => (xf_X11_foretold p97.2 v98 v99 v100).bind (fun p101 => if p97.1 = p101.1 then (j7 p101.2) else (some 0)))))))))) else if v9 = 18 then ((xf_X10_settled t1.2).bind (fun p102 => (xf_X11_settled p102.2).bind (fun p103 => if p102.1 = p103.1 then (j7 p103.2) else (some 0)))) else if v9 = 19 then (xr_sc L xs (t1.1 + 1) (fun v104 => xr_sc L xs (t1.1 + 2) (fun v105 => (xf_X10_awake t1.2 v104 v105).bind (fun p106 => xr_sc L xs (t1.1 + 1) (fun v107 => xr_sc L xs (t1.1 + 2) (fun v108 => (xf_X11_awake p106.2 v107 v108).bind (fun p109 => if p106.1 = p109.1 then (j7 p109.2) else (some 0)))))))) else if v9 = 20 then (xr_sc L xs (t1.1 + 1) (fun v110 => (xf_X10_bite t1.2 v110).bind (fun p111 => xr_sc L xs (t1.1 + 1) (fun v112 => (xf_X11_bite p111.2 v112).bind (fun p113 => if p111.1 = p113.1 then (j7 p113.2) else (some 0)))))) else if v9 = 21 then ((xf_X10_mayBe t1.2).bind (fun v114 => (xf_X11_mayBe t1.2).bind (fun v115 => if v114 = v115 then (j7 t1.2) else (some 0)))) else if v9 = 22 then ((xf_X10_whose t1.2).bind (fun v116 => (xf_X11_whose t1.2).bind (fun v117 => if v116 = v117 then (j7 t1.2) else (some 0)))) else if v9 = 23 then (xr_sc L xs (t1.1 + 1) (fun v118 => (xf_X10_howLikely t1.2 v118).bind (fun v119 => xr_sc L xs (t1.1 + 1) (fun v120 => (xf_X11_howLikely t1.2 v120).bind (fun v121 => if v119 = v121 then (j7 t1.2) else (some 0)))))) else if v9 = 24 then (xr_sc L xs (t1.1 + 1) (fun v122 => (xf_X10_crumbs t1.2 v122).bind (fun p123 => xr_sc L xs (t1.1 + 1) (fun v124 => (xf_X11_crumbs p123.2 v124).bind (fun p125 => if p123.1 = p125.1 then (j7 p125.2) else (some 0)))))) else if v9 = 25 then (xr_sc L xs (t1.1 + 1) (fun v126 => xr_sc L xs (t1.1 + 2) (fun v127 => (xf_X10_hire t1.2 v126 v127).bind (fun v128 => xr_sc L xs (t1.1 + 1) (fun v129 => xr_sc L xs (t1.1 + 2) (fun v130 => (xf_X11_hire t1.2 v129 v130).bind (fun v131 => if v128 = v131 then (j7 t1.2) else (some 0)))))))) else if v9 = 26 then (xr_sc L xs (t1.1 + 1) (fun v132 => (xf_X10_bread t1.2 v132).bind (fun p133 => xr_sc L xs (t1.1 + 1) (fun v134 => (xf_X11_bread p133.2 v134).bind (fun p135 => if p133.1 = p135.1 then (j7 p135.2) else (some 0)))))) else if v9 = 27 then (xr_sc L xs (t1.1 + 1) (fun v136 => xr_sc L xs (t1.1 + 2) (fun v137 => xr_sc L xs (t1.1 + 3) (fun v138 => (xf_X10_write t1.2 v136 v137 v138).bind (fun p139 => xr_sc L xs (t1.1 + 1) (fun v140 => xr_sc L xs (t1.1 + 2) (fun v141 => xr_sc L xs (t1.1 + 3) (fun v142 => (xf_X11_write p139.2 v140 v141 v142).bind (fun p143 => if p139.1 = p143.1 then (j7 p143.2) else (some 0)))))))))) else if v9 = 28 then ((xf_X10_tear t1.2).bind (fun p144 => (xf_X11_tear p144.2).bind (fun p145 => if p144.1 = p145.1 then (j7 p145.2) else (some 0)))) else if v9 = 29 then ((xf_X10_judge t1.2).bind (fun v146 => (xf_X11_judge t1.2).bind (fun v147 => if v146 = v147 then (j7 t1.2) else (some 0)))) else if v9 = 30 then (xr_sc L xs (t1.1 + 1) (fun v148 => (xf_X10_seed t1.2 v148).bind (fun p149 => xr_sc L xs (t1.1 + 1) (fun v150 => (xf_X11_seed p149.2 v150).bind (fun p151 => if p149.1 = p151.1 then (j7 p151.2) else (some 0)))))) else if v9 = 31 then (xr_sc L xs (t1.1 + 1) (fun v152 => (xf_X10_keep t1.2 v152).bind (fun p153 => xr_sc L xs (t1.1 + 1) (fun v154 => (xf_X11_keep p153.2 v154).bind (fun p155 => if p153.1 = p155.1 then (j7 p155.2) else (some 0)))))) else if v9 = 32 then (xr_sc L xs (t1.1 + 1) (fun v156 => (xf_X10_goBack t1.2 v156).bind (fun p157 => xr_sc L xs (t1.1 + 1) (fun v158 => (xf_X11_goBack p157.2 v158).bind (fun p159 => if p157.1 = p159.1 then (j7 p159.2) else (some 0)))))) else (j7 t1.2)))))
noncomputable def xf_L_law (L : Nat) (xs : Nat → Int32) (σ : xr_S) : Option Int32 := xr_lw (xf_L_law_L18 L xs (fun (e3 : xr_S) => some 1)) (0, σ)
set_option maxRecDepth 100000 in
set_option maxHeartbeats 8000000 in
theorem xc_L_law {l : Launch} {D : va_G} {ad : Nat → Nat} {ca : Nat → ClassId} {J : Nat → List (Option Value) → List Value → xr_S → Prop} {L b : Nat} {xs : Nat → Int32} (σ : xr_S) (B : xr_B l D ad ca cL_law RL 4 9 342 J) (SC : xl_S L b xs J) (hf : xf_L_law L xs σ = some 1) : J 18 [some (.ref b), some (.ref (ad 0)), some (.ref (ad 49)), some (.int 0)] [] σ := by
  unfold xf_L_law at hf
  refine xq_loop (fun (t1 : (Int32 × xr_S)) => J 18 [some (.ref b), some (.ref (ad 0)), some (.ref (ad 49)), some (.int t1.1)] [] t1.2) (fun (e3 : xr_S) => J 1031 [none, none, none, none] [] e3) hf (fun e3 hf => ?_) (fun K4 hK4 t1 rec2 hrec2 hf => ?_)
  · refine xr_iconst B (v := 1) dL_law_1031 (by decide) ?_
    exact SC.2.2 _ _ _ dL_law_1032
  · have hrec2 : ∀ (b1 : Int32) (b2 : xr_S), rec2 (b1, b2) = some 1 → J 18 [some (.ref b), some (.ref (ad 0)), some (.ref (ad 49)), some (.int b1)] [] b2 := fun b1 b2 h => hrec2 (b1, b2) h
    unfold xf_L_law_L18 at hf
    refine xr_iload_n B dL_law_18 rfl rfl ?_
    refine xr_aload_n B dL_law_19 rfl rfl ?_
    refine SC.2.1 _ _ _ _ dL_law_20 ?_
    refine xr_iconst B (v := 4) dL_law_21 (by decide) ?_
    refine xr_isub B dL_law_22 ?_
    refine xr_ic_gt B (tgt := 1031) dL_law_23 (by decide) hf (fun _ hf => ?_) (fun _ hf => ?_)
    · refine xr_forget B (lv2 := [none, none, none, none]) trivial ?_
      exact hK4 t1.2 hf
    · refine xr_aload_n B dL_law_26 rfl rfl ?_
      refine xr_iload_n B dL_law_27 rfl rfl ?_
      refine SC.1 _ _ _ _ _ _ dL_law_28 hf (fun v5 hf => ?_)
      refine xr_bipush B (v := 63) dL_law_29 (by decide) ?_
      refine xr_iand B dL_law_31 ?_
      refine xr_meet (fun (w6 : xr_S) => J 1025 [some (.ref b), some (.ref (ad 0)), some (.ref (ad 49)), some (.int t1.1)] [] w6) hf (fun w6 hf => ?_) (fun j7 hj7 hf => ?_)
      · refine xr_iinc B (v := (t1.1 + 4)) (lv2 := [some (.ref b), some (.ref (ad 0)), some (.ref (ad 49)), some (.int (t1.1 + 4))]) dL_law_1025 rfl (congrArg (t1.1 + ·) (by decide : Int32.ofInt (4) = 4)) (by decide) rfl ?_
        refine xr_goto B (tgt := 18) dL_law_1028 (by decide) ?_
        exact hrec2 (t1.1 + 4) w6 hf
      · refine xr_top _ hf (fun v9 hf => ?_)
        by_cases hc0 : v9 = 0
        · rw [if_pos hc0] at hf
          refine xr_tabI B (off := 148) (tgt := 180) dL_law_32 (by rw [hc0]; decide) (by rw [hc0]; decide) (by rw [hc0]; decide) (by decide) ?_
          refine xr_aload_n B dL_law_180 rfl rfl ?_
          refine xr_aload_n B dL_law_181 rfl rfl ?_
          refine xr_iload_n B dL_law_182 rfl rfl ?_
          refine xr_iconst B (v := 1) dL_law_183 (by decide) ?_
          refine xr_iadd B dL_law_184 ?_
          refine SC.1 _ _ _ _ _ _ dL_law_185 hf (fun v10 hf => ?_)
          refine xr_cVI B (rest := []) [.int v10] xm_X10_feed xv_L_13 (fun q hq => xc_X10_feed l D ad ca t1.2 v10 q hq) xh_0 rfl rfl (by decide) rfl (Nat.le_of_ble_eq_true rfl) dL_law_186 hf (fun p11 hf => ?_)
          refine xr_aload_n B dL_law_189 rfl rfl ?_
          refine xr_aload_n B dL_law_190 rfl rfl ?_
          refine xr_iload_n B dL_law_191 rfl rfl ?_
          refine xr_iconst B (v := 1) dL_law_192 (by decide) ?_
          refine xr_iadd B dL_law_193 ?_
          refine SC.1 _ _ _ _ _ _ dL_law_194 hf (fun v12 hf => ?_)
          refine xr_cVI B (rest := [.int p11.1]) [.int v12] xm_X11_feed xv_L_17 (fun q hq => xc_X11_feed l D ad ca p11.2 v12 q hq) xh_49 rfl rfl (by decide) rfl (Nat.le_of_ble_eq_true rfl) dL_law_195 hf (fun p13 hf => ?_)
          refine xr_ic_eq B (tgt := 1025) dL_law_198 (by decide) hf (fun _ hf => ?_) (fun _ hf => ?_)
          · exact hj7 p13.2 hf
          · refine xr_iconst B (v := 0) dL_law_201 (by decide) ?_
            exact absurd (Option.some.inj hf) (by decide)
        rw [if_neg hc0] at hf
        by_cases hc1 : v9 = 1
        · rw [if_pos hc1] at hf
          refine xr_tabI B (off := 171) (tgt := 203) dL_law_32 (by rw [hc1]; decide) (by rw [hc1]; decide) (by rw [hc1]; decide) (by decide) ?_
          refine xr_aload_n B dL_law_203 rfl rfl ?_
          refine xr_cVI B (rest := []) [] xm_X10_street xv_L_18 (fun q hq => xc_X10_street l D ad ca t1.2 q hq) xh_0 rfl rfl (by decide) rfl (Nat.le_of_ble_eq_true rfl) dL_law_204 hf (fun p14 hf => ?_)
          refine xr_aload_n B dL_law_207 rfl rfl ?_
          refine xr_cVI B (rest := [.int p14.1]) [] xm_X11_street xv_L_22 (fun q hq => xc_X11_street l D ad ca p14.2 q hq) xh_49 rfl rfl (by decide) rfl (Nat.le_of_ble_eq_true rfl) dL_law_208 hf (fun p15 hf => ?_)
          refine xr_ic_eq B (tgt := 1025) dL_law_211 (by decide) hf (fun _ hf => ?_) (fun _ hf => ?_)
          · exact hj7 p15.2 hf
          · refine xr_iconst B (v := 0) dL_law_214 (by decide) ?_
            exact absurd (Option.some.inj hf) (by decide)
        rw [if_neg hc1] at hf
        by_cases hc2 : v9 = 2
        · rw [if_pos hc2] at hf
          refine xr_tabI B (off := 184) (tgt := 216) dL_law_32 (by rw [hc2]; decide) (by rw [hc2]; decide) (by rw [hc2]; decide) (by decide) ?_
          refine xr_aload_n B dL_law_216 rfl rfl ?_
          refine xr_cVi B (rest := []) [] xm_X10_fault xv_L_23 (fun q hq => xc_X10_fault l D ad ca t1.2 q hq) xh_0 rfl rfl (by decide) rfl (Nat.le_of_ble_eq_true rfl) dL_law_217 hf (fun v16 hf => ?_)
          refine xr_aload_n B dL_law_220 rfl rfl ?_
          refine xr_cVi B (rest := [.int v16]) [] xm_X11_fault xv_L_26 (fun q hq => xc_X11_fault l D ad ca t1.2 q hq) xh_49 rfl rfl (by decide) rfl (Nat.le_of_ble_eq_true rfl) dL_law_221 hf (fun v17 hf => ?_)
          refine xr_ic_eq B (tgt := 1025) dL_law_224 (by decide) hf (fun _ hf => ?_) (fun _ hf => ?_)
          · exact hj7 t1.2 hf
          · refine xr_iconst B (v := 0) dL_law_227 (by decide) ?_
            exact absurd (Option.some.inj hf) (by decide)
        rw [if_neg hc2] at hf
        by_cases hc3 : v9 = 3
        · rw [if_pos hc3] at hf
          refine xr_tabI B (off := 197) (tgt := 229) dL_law_32 (by rw [hc3]; decide) (by rw [hc3]; decide) (by rw [hc3]; decide) (by decide) ?_
          refine xr_aload_n B dL_law_229 rfl rfl ?_
          refine xr_aload_n B dL_law_230 rfl rfl ?_
          refine xr_iload_n B dL_law_231 rfl rfl ?_
          refine xr_iconst B (v := 1) dL_law_232 (by decide) ?_
          refine xr_iadd B dL_law_233 ?_
          refine SC.1 _ _ _ _ _ _ dL_law_234 hf (fun v18 hf => ?_)
          refine xr_cVi B (rest := []) [.int v18] xm_X10_told xv_L_27 (fun q hq => xc_X10_told l D ad ca t1.2 v18 q hq) xh_0 rfl rfl (by decide) rfl (Nat.le_of_ble_eq_true rfl) dL_law_235 hf (fun v19 hf => ?_)
          refine xr_aload_n B dL_law_238 rfl rfl ?_
          refine xr_aload_n B dL_law_239 rfl rfl ?_
          refine xr_iload_n B dL_law_240 rfl rfl ?_
          refine xr_iconst B (v := 1) dL_law_241 (by decide) ?_
          refine xr_iadd B dL_law_242 ?_
          refine SC.1 _ _ _ _ _ _ dL_law_243 hf (fun v20 hf => ?_)
          refine xr_cVi B (rest := [.int v19]) [.int v20] xm_X11_told xv_L_30 (fun q hq => xc_X11_told l D ad ca t1.2 v20 q hq) xh_49 rfl rfl (by decide) rfl (Nat.le_of_ble_eq_true rfl) dL_law_244 hf (fun v21 hf => ?_)
          refine xr_ic_eq B (tgt := 1025) dL_law_247 (by decide) hf (fun _ hf => ?_) (fun _ hf => ?_)
          · exact hj7 t1.2 hf
          · refine xr_iconst B (v := 0) dL_law_250 (by decide) ?_
            exact absurd (Option.some.inj hf) (by decide)
        rw [if_neg hc3] at hf
        by_cases hc4 : v9 = 4
        · rw [if_pos hc4] at hf
          refine xr_tabI B (off := 220) (tgt := 252) dL_law_32 (by rw [hc4]; decide) (by rw [hc4]; decide) (by rw [hc4]; decide) (by decide) ?_
          refine xr_aload_n B dL_law_252 rfl rfl ?_
          refine xr_aload_n B dL_law_253 rfl rfl ?_
          refine xr_iload_n B dL_law_254 rfl rfl ?_
          refine xr_iconst B (v := 1) dL_law_255 (by decide) ?_
          refine xr_iadd B dL_law_256 ?_
          refine SC.1 _ _ _ _ _ _ dL_law_257 hf (fun v22 hf => ?_)
          refine xr_aload_n B dL_law_258 rfl rfl ?_
          refine xr_iload_n B dL_law_259 rfl rfl ?_
          refine xr_iconst B (v := 2) dL_law_260 (by decide) ?_
          refine xr_iadd B dL_law_261 ?_
          refine SC.1 _ _ _ _ _ _ dL_law_262 hf (fun v23 hf => ?_)
          refine xr_cVi B (rest := []) [.int v22, .int v23] xm_X10_weight xv_L_31 (fun q hq => xc_X10_weight l D ad ca t1.2 v22 v23 q hq) xh_0 rfl rfl (by decide) rfl (Nat.le_of_ble_eq_true rfl) dL_law_263 hf (fun v24 hf => ?_)
          refine xr_aload_n B dL_law_266 rfl rfl ?_
          refine xr_aload_n B dL_law_267 rfl rfl ?_
          refine xr_iload_n B dL_law_268 rfl rfl ?_
          refine xr_iconst B (v := 1) dL_law_269 (by decide) ?_
          refine xr_iadd B dL_law_270 ?_
          refine SC.1 _ _ _ _ _ _ dL_law_271 hf (fun v25 hf => ?_)
          refine xr_aload_n B dL_law_272 rfl rfl ?_
          refine xr_iload_n B dL_law_273 rfl rfl ?_
          refine xr_iconst B (v := 2) dL_law_274 (by decide) ?_
          refine xr_iadd B dL_law_275 ?_
          refine SC.1 _ _ _ _ _ _ dL_law_276 hf (fun v26 hf => ?_)
          refine xr_cVi B (rest := [.int v24]) [.int v25, .int v26] xm_X11_weight xv_L_35 (fun q hq => xc_X11_weight l D ad ca t1.2 v25 v26 q hq) xh_49 rfl rfl (by decide) rfl (Nat.le_of_ble_eq_true rfl) dL_law_277 hf (fun v27 hf => ?_)
          refine xr_ic_eq B (tgt := 1025) dL_law_280 (by decide) hf (fun _ hf => ?_) (fun _ hf => ?_)
          · exact hj7 t1.2 hf
          · refine xr_iconst B (v := 0) dL_law_283 (by decide) ?_
            exact absurd (Option.some.inj hf) (by decide)
        rw [if_neg hc4] at hf
        by_cases hc5 : v9 = 5
        · rw [if_pos hc5] at hf
          refine xr_tabI B (off := 253) (tgt := 285) dL_law_32 (by rw [hc5]; decide) (by rw [hc5]; decide) (by rw [hc5]; decide) (by decide) ?_
          refine xr_aload_n B dL_law_285 rfl rfl ?_
          refine xr_aload_n B dL_law_286 rfl rfl ?_
          refine xr_iload_n B dL_law_287 rfl rfl ?_
          refine xr_iconst B (v := 1) dL_law_288 (by decide) ?_
          refine xr_iadd B dL_law_289 ?_
          refine SC.1 _ _ _ _ _ _ dL_law_290 hf (fun v28 hf => ?_)
          refine xr_aload_n B dL_law_291 rfl rfl ?_
          refine xr_iload_n B dL_law_292 rfl rfl ?_
          refine xr_iconst B (v := 2) dL_law_293 (by decide) ?_
          refine xr_iadd B dL_law_294 ?_
          refine SC.1 _ _ _ _ _ _ dL_law_295 hf (fun v29 hf => ?_)
          refine xr_aload_n B dL_law_296 rfl rfl ?_
          refine xr_iload_n B dL_law_297 rfl rfl ?_
          refine xr_iconst B (v := 3) dL_law_298 (by decide) ?_
          refine xr_iadd B dL_law_299 ?_
          refine SC.1 _ _ _ _ _ _ dL_law_300 hf (fun v30 hf => ?_)
          refine xr_cVi B (rest := []) [.int v28, .int v29, .int v30] xm_X10_odds xv_L_36 (fun q hq => xc_X10_odds l D ad ca t1.2 v28 v29 v30 q hq) xh_0 rfl rfl (by decide) rfl (Nat.le_of_ble_eq_true rfl) dL_law_301 hf (fun v31 hf => ?_)
          refine xr_aload_n B dL_law_304 rfl rfl ?_
          refine xr_aload_n B dL_law_305 rfl rfl ?_
          refine xr_iload_n B dL_law_306 rfl rfl ?_
          refine xr_iconst B (v := 1) dL_law_307 (by decide) ?_
          refine xr_iadd B dL_law_308 ?_
          refine SC.1 _ _ _ _ _ _ dL_law_309 hf (fun v32 hf => ?_)
          refine xr_aload_n B dL_law_310 rfl rfl ?_
          refine xr_iload_n B dL_law_311 rfl rfl ?_
          refine xr_iconst B (v := 2) dL_law_312 (by decide) ?_
          refine xr_iadd B dL_law_313 ?_
          refine SC.1 _ _ _ _ _ _ dL_law_314 hf (fun v33 hf => ?_)
          refine xr_aload_n B dL_law_315 rfl rfl ?_
          refine xr_iload_n B dL_law_316 rfl rfl ?_
          refine xr_iconst B (v := 3) dL_law_317 (by decide) ?_
          refine xr_iadd B dL_law_318 ?_
          refine SC.1 _ _ _ _ _ _ dL_law_319 hf (fun v34 hf => ?_)
          refine xr_cVi B (rest := [.int v31]) [.int v32, .int v33, .int v34] xm_X11_odds xv_L_40 (fun q hq => xc_X11_odds l D ad ca t1.2 v32 v33 v34 q hq) xh_49 rfl rfl (by decide) rfl (Nat.le_of_ble_eq_true rfl) dL_law_320 hf (fun v35 hf => ?_)
          refine xr_ic_eq B (tgt := 1025) dL_law_323 (by decide) hf (fun _ hf => ?_) (fun _ hf => ?_)
          · exact hj7 t1.2 hf
          · refine xr_iconst B (v := 0) dL_law_326 (by decide) ?_
            exact absurd (Option.some.inj hf) (by decide)
        rw [if_neg hc5] at hf
        by_cases hc6 : v9 = 6
        · rw [if_pos hc6] at hf
          refine xr_tabI B (off := 296) (tgt := 328) dL_law_32 (by rw [hc6]; decide) (by rw [hc6]; decide) (by rw [hc6]; decide) (by decide) ?_
          refine xr_aload_n B dL_law_328 rfl rfl ?_
          refine xr_aload_n B dL_law_329 rfl rfl ?_
          refine xr_iload_n B dL_law_330 rfl rfl ?_
          refine xr_iconst B (v := 1) dL_law_331 (by decide) ?_
          refine xr_iadd B dL_law_332 ?_
          refine SC.1 _ _ _ _ _ _ dL_law_333 hf (fun v36 hf => ?_)
          refine xr_cVi B (rest := []) [.int v36] xm_X10_likeliest xv_L_41 (fun q hq => xc_X10_likeliest l D ad ca t1.2 v36 q hq) xh_0 rfl rfl (by decide) rfl (Nat.le_of_ble_eq_true rfl) dL_law_334 hf (fun v37 hf => ?_)
          refine xr_aload_n B dL_law_337 rfl rfl ?_
          refine xr_aload_n B dL_law_338 rfl rfl ?_
          refine xr_iload_n B dL_law_339 rfl rfl ?_
          refine xr_iconst B (v := 1) dL_law_340 (by decide) ?_
          refine xr_iadd B dL_law_341 ?_
          refine SC.1 _ _ _ _ _ _ dL_law_342 hf (fun v38 hf => ?_)
          refine xr_cVi B (rest := [.int v37]) [.int v38] xm_X11_likeliest xv_L_44 (fun q hq => xc_X11_likeliest l D ad ca t1.2 v38 q hq) xh_49 rfl rfl (by decide) rfl (Nat.le_of_ble_eq_true rfl) dL_law_343 hf (fun v39 hf => ?_)
          refine xr_ic_eq B (tgt := 1025) dL_law_346 (by decide) hf (fun _ hf => ?_) (fun _ hf => ?_)
          · exact hj7 t1.2 hf
          · refine xr_iconst B (v := 0) dL_law_349 (by decide) ?_
            exact absurd (Option.some.inj hf) (by decide)
        rw [if_neg hc6] at hf
        by_cases hc7 : v9 = 7
        · rw [if_pos hc7] at hf
          refine xr_tabI B (off := 319) (tgt := 351) dL_law_32 (by rw [hc7]; decide) (by rw [hc7]; decide) (by rw [hc7]; decide) (by decide) ?_
          refine xr_aload_n B dL_law_351 rfl rfl ?_
          refine xr_aload_n B dL_law_352 rfl rfl ?_
          refine xr_iload_n B dL_law_353 rfl rfl ?_
          refine xr_iconst B (v := 1) dL_law_354 (by decide) ?_
          refine xr_iadd B dL_law_355 ?_
          refine SC.1 _ _ _ _ _ _ dL_law_356 hf (fun v40 hf => ?_)
          refine xr_aload_n B dL_law_357 rfl rfl ?_
          refine xr_iload_n B dL_law_358 rfl rfl ?_
          refine xr_iconst B (v := 2) dL_law_359 (by decide) ?_
          refine xr_iadd B dL_law_360 ?_
          refine SC.1 _ _ _ _ _ _ dL_law_361 hf (fun v41 hf => ?_)
          refine xr_cVi B (rest := []) [.int v40, .int v41] xm_X10_loaf xv_L_45 (fun q hq => xc_X10_loaf l D ad ca t1.2 v40 v41 q hq) xh_0 rfl rfl (by decide) rfl (Nat.le_of_ble_eq_true rfl) dL_law_362 hf (fun v42 hf => ?_)
          refine xr_aload_n B dL_law_365 rfl rfl ?_
          refine xr_aload_n B dL_law_366 rfl rfl ?_
          refine xr_iload_n B dL_law_367 rfl rfl ?_
          refine xr_iconst B (v := 1) dL_law_368 (by decide) ?_
          refine xr_iadd B dL_law_369 ?_
          refine SC.1 _ _ _ _ _ _ dL_law_370 hf (fun v43 hf => ?_)
          refine xr_aload_n B dL_law_371 rfl rfl ?_
          refine xr_iload_n B dL_law_372 rfl rfl ?_
          refine xr_iconst B (v := 2) dL_law_373 (by decide) ?_
          refine xr_iadd B dL_law_374 ?_
          refine SC.1 _ _ _ _ _ _ dL_law_375 hf (fun v44 hf => ?_)
          refine xr_cVi B (rest := [.int v42]) [.int v43, .int v44] xm_X11_loaf xv_L_48 (fun q hq => xc_X11_loaf l D ad ca t1.2 v43 v44 q hq) xh_49 rfl rfl (by decide) rfl (Nat.le_of_ble_eq_true rfl) dL_law_376 hf (fun v45 hf => ?_)
          refine xr_ic_eq B (tgt := 1025) dL_law_379 (by decide) hf (fun _ hf => ?_) (fun _ hf => ?_)
          · exact hj7 t1.2 hf
          · refine xr_iconst B (v := 0) dL_law_382 (by decide) ?_
            exact absurd (Option.some.inj hf) (by decide)
        rw [if_neg hc7] at hf
        by_cases hc8 : v9 = 8
        · rw [if_pos hc8] at hf
          refine xr_tabI B (off := 352) (tgt := 384) dL_law_32 (by rw [hc8]; decide) (by rw [hc8]; decide) (by rw [hc8]; decide) (by decide) ?_
          refine xr_aload_n B dL_law_384 rfl rfl ?_
          refine xr_aload_n B dL_law_385 rfl rfl ?_
          refine xr_iload_n B dL_law_386 rfl rfl ?_
          refine xr_iconst B (v := 1) dL_law_387 (by decide) ?_
          refine xr_iadd B dL_law_388 ?_
          refine SC.1 _ _ _ _ _ _ dL_law_389 hf (fun v46 hf => ?_)
          refine xr_aload_n B dL_law_390 rfl rfl ?_
          refine xr_iload_n B dL_law_391 rfl rfl ?_
          refine xr_iconst B (v := 2) dL_law_392 (by decide) ?_
          refine xr_iadd B dL_law_393 ?_
          refine SC.1 _ _ _ _ _ _ dL_law_394 hf (fun v47 hf => ?_)
          refine xr_cVi B (rest := []) [.int v46, .int v47] xm_X10_worth xv_L_49 (fun q hq => xc_X10_worth l D ad ca t1.2 v46 v47 q hq) xh_0 rfl rfl (by decide) rfl (Nat.le_of_ble_eq_true rfl) dL_law_395 hf (fun v48 hf => ?_)
          refine xr_aload_n B dL_law_398 rfl rfl ?_
          refine xr_aload_n B dL_law_399 rfl rfl ?_
          refine xr_iload_n B dL_law_400 rfl rfl ?_
          refine xr_iconst B (v := 1) dL_law_401 (by decide) ?_
          refine xr_iadd B dL_law_402 ?_
          refine SC.1 _ _ _ _ _ _ dL_law_403 hf (fun v49 hf => ?_)
          refine xr_aload_n B dL_law_404 rfl rfl ?_
          refine xr_iload_n B dL_law_405 rfl rfl ?_
          refine xr_iconst B (v := 2) dL_law_406 (by decide) ?_
          refine xr_iadd B dL_law_407 ?_
          refine SC.1 _ _ _ _ _ _ dL_law_408 hf (fun v50 hf => ?_)
          refine xr_cVi B (rest := [.int v48]) [.int v49, .int v50] xm_X11_worth xv_L_52 (fun q hq => xc_X11_worth l D ad ca t1.2 v49 v50 q hq) xh_49 rfl rfl (by decide) rfl (Nat.le_of_ble_eq_true rfl) dL_law_409 hf (fun v51 hf => ?_)
          refine xr_ic_eq B (tgt := 1025) dL_law_412 (by decide) hf (fun _ hf => ?_) (fun _ hf => ?_)
          · exact hj7 t1.2 hf
          · refine xr_iconst B (v := 0) dL_law_415 (by decide) ?_
            exact absurd (Option.some.inj hf) (by decide)
        rw [if_neg hc8] at hf
        by_cases hc9 : v9 = 9
        · rw [if_pos hc9] at hf
          refine xr_tabI B (off := 385) (tgt := 417) dL_law_32 (by rw [hc9]; decide) (by rw [hc9]; decide) (by rw [hc9]; decide) (by decide) ?_
          refine xr_aload_n B dL_law_417 rfl rfl ?_
          refine xr_aload_n B dL_law_418 rfl rfl ?_
          refine xr_iload_n B dL_law_419 rfl rfl ?_
          refine xr_iconst B (v := 1) dL_law_420 (by decide) ?_
          refine xr_iadd B dL_law_421 ?_
          refine SC.1 _ _ _ _ _ _ dL_law_422 hf (fun v52 hf => ?_)
          refine xr_aload_n B dL_law_423 rfl rfl ?_
          refine xr_iload_n B dL_law_424 rfl rfl ?_
          refine xr_iconst B (v := 2) dL_law_425 (by decide) ?_
          refine xr_iadd B dL_law_426 ?_
          refine SC.1 _ _ _ _ _ _ dL_law_427 hf (fun v53 hf => ?_)
          refine xr_cVI B (rest := []) [.int v52, .int v53] xm_X10_lay xv_L_53 (fun q hq => xc_X10_lay l D ad ca t1.2 v52 v53 q hq) xh_0 rfl rfl (by decide) rfl (Nat.le_of_ble_eq_true rfl) dL_law_428 hf (fun p54 hf => ?_)
          refine xr_aload_n B dL_law_431 rfl rfl ?_
          refine xr_aload_n B dL_law_432 rfl rfl ?_
          refine xr_iload_n B dL_law_433 rfl rfl ?_
          refine xr_iconst B (v := 1) dL_law_434 (by decide) ?_
          refine xr_iadd B dL_law_435 ?_
          refine SC.1 _ _ _ _ _ _ dL_law_436 hf (fun v55 hf => ?_)
          refine xr_aload_n B dL_law_437 rfl rfl ?_
          refine xr_iload_n B dL_law_438 rfl rfl ?_
          refine xr_iconst B (v := 2) dL_law_439 (by decide) ?_
          refine xr_iadd B dL_law_440 ?_
          refine SC.1 _ _ _ _ _ _ dL_law_441 hf (fun v56 hf => ?_)
          refine xr_cVI B (rest := [.int p54.1]) [.int v55, .int v56] xm_X11_lay xv_L_56 (fun q hq => xc_X11_lay l D ad ca p54.2 v55 v56 q hq) xh_49 rfl rfl (by decide) rfl (Nat.le_of_ble_eq_true rfl) dL_law_442 hf (fun p57 hf => ?_)
          refine xr_ic_eq B (tgt := 1025) dL_law_445 (by decide) hf (fun _ hf => ?_) (fun _ hf => ?_)
          · exact hj7 p57.2 hf
          · refine xr_iconst B (v := 0) dL_law_448 (by decide) ?_
            exact absurd (Option.some.inj hf) (by decide)
        rw [if_neg hc9] at hf
        by_cases hc10 : v9 = 10
        · rw [if_pos hc10] at hf
          refine xr_tabI B (off := 418) (tgt := 450) dL_law_32 (by rw [hc10]; decide) (by rw [hc10]; decide) (by rw [hc10]; decide) (by decide) ?_
          refine xr_aload_n B dL_law_450 rfl rfl ?_
          refine xr_aload_n B dL_law_451 rfl rfl ?_
          refine xr_iload_n B dL_law_452 rfl rfl ?_
          refine xr_iconst B (v := 1) dL_law_453 (by decide) ?_
          refine xr_iadd B dL_law_454 ?_
          refine SC.1 _ _ _ _ _ _ dL_law_455 hf (fun v58 hf => ?_)
          refine xr_cVI B (rest := []) [.int v58] xm_X10_takeOff xv_L_57 (fun q hq => xc_X10_takeOff l D ad ca t1.2 v58 q hq) xh_0 rfl rfl (by decide) rfl (Nat.le_of_ble_eq_true rfl) dL_law_456 hf (fun p59 hf => ?_)
          refine xr_aload_n B dL_law_459 rfl rfl ?_
          refine xr_aload_n B dL_law_460 rfl rfl ?_
          refine xr_iload_n B dL_law_461 rfl rfl ?_
          refine xr_iconst B (v := 1) dL_law_462 (by decide) ?_
          refine xr_iadd B dL_law_463 ?_
          refine SC.1 _ _ _ _ _ _ dL_law_464 hf (fun v60 hf => ?_)
          refine xr_cVI B (rest := [.int p59.1]) [.int v60] xm_X11_takeOff xv_L_60 (fun q hq => xc_X11_takeOff l D ad ca p59.2 v60 q hq) xh_49 rfl rfl (by decide) rfl (Nat.le_of_ble_eq_true rfl) dL_law_465 hf (fun p61 hf => ?_)
          refine xr_ic_eq B (tgt := 1025) dL_law_468 (by decide) hf (fun _ hf => ?_) (fun _ hf => ?_)
          · exact hj7 p61.2 hf
          · refine xr_iconst B (v := 0) dL_law_471 (by decide) ?_
            exact absurd (Option.some.inj hf) (by decide)
        rw [if_neg hc10] at hf
        by_cases hc11 : v9 = 11
        · rw [if_pos hc11] at hf
          refine xr_tabI B (off := 441) (tgt := 473) dL_law_32 (by rw [hc11]; decide) (by rw [hc11]; decide) (by rw [hc11]; decide) (by decide) ?_
          refine xr_aload_n B dL_law_473 rfl rfl ?_
          refine xr_aload_n B dL_law_474 rfl rfl ?_
          refine xr_iload_n B dL_law_475 rfl rfl ?_
          refine xr_iconst B (v := 1) dL_law_476 (by decide) ?_
          refine xr_iadd B dL_law_477 ?_
          refine SC.1 _ _ _ _ _ _ dL_law_478 hf (fun v62 hf => ?_)
          refine xr_aload_n B dL_law_479 rfl rfl ?_
          refine xr_iload_n B dL_law_480 rfl rfl ?_
          refine xr_iconst B (v := 2) dL_law_481 (by decide) ?_
          refine xr_iadd B dL_law_482 ?_
          refine SC.1 _ _ _ _ _ _ dL_law_483 hf (fun v63 hf => ?_)
          refine xr_meet (fun (w64 : Int32) => J 492 [some (.ref b), some (.ref (ad 0)), some (.ref (ad 49)), some (.int t1.1)] [.int w64, .int v62, .ref (ad 0)] t1.2) hf (fun w64 hf => ?_) (fun j65 hj65 hf => ?_)
          · refine xr_cVI B (rest := []) [.int v62, .int w64] xm_X10_wake xv_L_61 (fun q hq => xc_X10_wake l D ad ca t1.2 v62 w64 q hq) xh_0 rfl rfl (by decide) rfl (Nat.le_of_ble_eq_true rfl) dL_law_492 hf (fun p66 hf => ?_)
            refine xr_aload_n B dL_law_495 rfl rfl ?_
            refine xr_aload_n B dL_law_496 rfl rfl ?_
            refine xr_iload_n B dL_law_497 rfl rfl ?_
            refine xr_iconst B (v := 1) dL_law_498 (by decide) ?_
            refine xr_iadd B dL_law_499 ?_
            refine SC.1 _ _ _ _ _ _ dL_law_500 hf (fun v67 hf => ?_)
            refine xr_aload_n B dL_law_501 rfl rfl ?_
            refine xr_iload_n B dL_law_502 rfl rfl ?_
            refine xr_iconst B (v := 2) dL_law_503 (by decide) ?_
            refine xr_iadd B dL_law_504 ?_
            refine SC.1 _ _ _ _ _ _ dL_law_505 hf (fun v68 hf => ?_)
            refine xr_meet (fun (w69 : Int32) => J 514 [some (.ref b), some (.ref (ad 0)), some (.ref (ad 49)), some (.int t1.1)] [.int w69, .int v67, .ref (ad 49), .int p66.1] p66.2) hf (fun w69 hf => ?_) (fun j70 hj70 hf => ?_)
            · refine xr_cVI B (rest := [.int p66.1]) [.int v67, .int w69] xm_X11_wake xv_L_65 (fun q hq => xc_X11_wake l D ad ca p66.2 v67 w69 q hq) xh_49 rfl rfl (by decide) rfl (Nat.le_of_ble_eq_true rfl) dL_law_514 hf (fun p71 hf => ?_)
              refine xr_ic_eq B (tgt := 1025) dL_law_517 (by decide) hf (fun _ hf => ?_) (fun _ hf => ?_)
              · exact hj7 p71.2 hf
              · refine xr_iconst B (v := 0) dL_law_520 (by decide) ?_
                exact absurd (Option.some.inj hf) (by decide)
            · refine xr_if_eq B (tgt := 513) dL_law_506 (by decide) hf (fun _ hf => ?_) (fun _ hf => ?_)
              · refine xr_iconst B (v := 0) dL_law_513 (by decide) ?_
                exact hj70 0 hf
              · refine xr_iconst B (v := 1) dL_law_509 (by decide) ?_
                refine xr_goto B (tgt := 514) dL_law_510 (by decide) ?_
                exact hj70 1 hf
          · refine xr_if_eq B (tgt := 491) dL_law_484 (by decide) hf (fun _ hf => ?_) (fun _ hf => ?_)
            · refine xr_iconst B (v := 0) dL_law_491 (by decide) ?_
              exact hj65 0 hf
            · refine xr_iconst B (v := 1) dL_law_487 (by decide) ?_
              refine xr_goto B (tgt := 492) dL_law_488 (by decide) ?_
              exact hj65 1 hf
        rw [if_neg hc11] at hf
        by_cases hc12 : v9 = 12
        · rw [if_pos hc12] at hf
          refine xr_tabI B (off := 490) (tgt := 522) dL_law_32 (by rw [hc12]; decide) (by rw [hc12]; decide) (by rw [hc12]; decide) (by decide) ?_
          refine xr_aload_n B dL_law_522 rfl rfl ?_
          refine xr_aload_n B dL_law_523 rfl rfl ?_
          refine xr_iload_n B dL_law_524 rfl rfl ?_
          refine xr_iconst B (v := 1) dL_law_525 (by decide) ?_
          refine xr_iadd B dL_law_526 ?_
          refine SC.1 _ _ _ _ _ _ dL_law_527 hf (fun v72 hf => ?_)
          refine xr_cVI B (rest := []) [.int v72] xm_X10_night xv_L_66 (fun q hq => xc_X10_night l D ad ca t1.2 v72 q hq) xh_0 rfl rfl (by decide) rfl (Nat.le_of_ble_eq_true rfl) dL_law_528 hf (fun p73 hf => ?_)
          refine xr_aload_n B dL_law_531 rfl rfl ?_
          refine xr_aload_n B dL_law_532 rfl rfl ?_
          refine xr_iload_n B dL_law_533 rfl rfl ?_
          refine xr_iconst B (v := 1) dL_law_534 (by decide) ?_
          refine xr_iadd B dL_law_535 ?_
          refine SC.1 _ _ _ _ _ _ dL_law_536 hf (fun v74 hf => ?_)
          refine xr_cVI B (rest := [.int p73.1]) [.int v74] xm_X11_night xv_L_69 (fun q hq => xc_X11_night l D ad ca p73.2 v74 q hq) xh_49 rfl rfl (by decide) rfl (Nat.le_of_ble_eq_true rfl) dL_law_537 hf (fun p75 hf => ?_)
          refine xr_ic_eq B (tgt := 1025) dL_law_540 (by decide) hf (fun _ hf => ?_) (fun _ hf => ?_)
          · exact hj7 p75.2 hf
          · refine xr_iconst B (v := 0) dL_law_543 (by decide) ?_
            exact absurd (Option.some.inj hf) (by decide)
        rw [if_neg hc12] at hf
        by_cases hc13 : v9 = 13
        · rw [if_pos hc13] at hf
          refine xr_tabI B (off := 513) (tgt := 545) dL_law_32 (by rw [hc13]; decide) (by rw [hc13]; decide) (by rw [hc13]; decide) (by decide) ?_
          refine xr_aload_n B dL_law_545 rfl rfl ?_
          refine xr_aload_n B dL_law_546 rfl rfl ?_
          refine xr_iload_n B dL_law_547 rfl rfl ?_
          refine xr_iconst B (v := 1) dL_law_548 (by decide) ?_
          refine xr_iadd B dL_law_549 ?_
          refine SC.1 _ _ _ _ _ _ dL_law_550 hf (fun v76 hf => ?_)
          refine xr_cVI B (rest := []) [.int v76] xm_X10_eat xv_L_70 (fun q hq => xc_X10_eat l D ad ca t1.2 v76 q hq) xh_0 rfl rfl (by decide) rfl (Nat.le_of_ble_eq_true rfl) dL_law_551 hf (fun p77 hf => ?_)
          refine xr_aload_n B dL_law_554 rfl rfl ?_
          refine xr_aload_n B dL_law_555 rfl rfl ?_
          refine xr_iload_n B dL_law_556 rfl rfl ?_
          refine xr_iconst B (v := 1) dL_law_557 (by decide) ?_
          refine xr_iadd B dL_law_558 ?_
          refine SC.1 _ _ _ _ _ _ dL_law_559 hf (fun v78 hf => ?_)
          refine xr_cVI B (rest := [.int p77.1]) [.int v78] xm_X11_eat xv_L_73 (fun q hq => xc_X11_eat l D ad ca p77.2 v78 q hq) xh_49 rfl rfl (by decide) rfl (Nat.le_of_ble_eq_true rfl) dL_law_560 hf (fun p79 hf => ?_)
          refine xr_ic_eq B (tgt := 1025) dL_law_563 (by decide) hf (fun _ hf => ?_) (fun _ hf => ?_)
          · exact hj7 p79.2 hf
          · refine xr_iconst B (v := 0) dL_law_566 (by decide) ?_
            exact absurd (Option.some.inj hf) (by decide)
        rw [if_neg hc13] at hf
        by_cases hc14 : v9 = 14
        · rw [if_pos hc14] at hf
          refine xr_tabI B (off := 536) (tgt := 568) dL_law_32 (by rw [hc14]; decide) (by rw [hc14]; decide) (by rw [hc14]; decide) (by decide) ?_
          refine xr_aload_n B dL_law_568 rfl rfl ?_
          refine xr_aload_n B dL_law_569 rfl rfl ?_
          refine xr_iload_n B dL_law_570 rfl rfl ?_
          refine xr_iconst B (v := 1) dL_law_571 (by decide) ?_
          refine xr_iadd B dL_law_572 ?_
          refine SC.1 _ _ _ _ _ _ dL_law_573 hf (fun v80 hf => ?_)
          refine xr_cVI B (rest := []) [.int v80] xm_X10_salt xv_L_74 (fun q hq => xc_X10_salt l D ad ca t1.2 v80 q hq) xh_0 rfl rfl (by decide) rfl (Nat.le_of_ble_eq_true rfl) dL_law_574 hf (fun p81 hf => ?_)
          refine xr_aload_n B dL_law_577 rfl rfl ?_
          refine xr_aload_n B dL_law_578 rfl rfl ?_
          refine xr_iload_n B dL_law_579 rfl rfl ?_
          refine xr_iconst B (v := 1) dL_law_580 (by decide) ?_
          refine xr_iadd B dL_law_581 ?_
          refine SC.1 _ _ _ _ _ _ dL_law_582 hf (fun v82 hf => ?_)
          refine xr_cVI B (rest := [.int p81.1]) [.int v82] xm_X11_salt xv_L_77 (fun q hq => xc_X11_salt l D ad ca p81.2 v82 q hq) xh_49 rfl rfl (by decide) rfl (Nat.le_of_ble_eq_true rfl) dL_law_583 hf (fun p83 hf => ?_)
          refine xr_ic_eq B (tgt := 1025) dL_law_586 (by decide) hf (fun _ hf => ?_) (fun _ hf => ?_)
          · exact hj7 p83.2 hf
          · refine xr_iconst B (v := 0) dL_law_589 (by decide) ?_
            exact absurd (Option.some.inj hf) (by decide)
        rw [if_neg hc14] at hf
        by_cases hc15 : v9 = 15
        · rw [if_pos hc15] at hf
          refine xr_tabI B (off := 559) (tgt := 591) dL_law_32 (by rw [hc15]; decide) (by rw [hc15]; decide) (by rw [hc15]; decide) (by decide) ?_
          refine xr_aload_n B dL_law_591 rfl rfl ?_
          refine xr_aload_n B dL_law_592 rfl rfl ?_
          refine xr_iload_n B dL_law_593 rfl rfl ?_
          refine xr_iconst B (v := 1) dL_law_594 (by decide) ?_
          refine xr_iadd B dL_law_595 ?_
          refine SC.1 _ _ _ _ _ _ dL_law_596 hf (fun v84 hf => ?_)
          refine xr_cVI B (rest := []) [.int v84] xm_X10_beds xv_L_78 (fun q hq => xc_X10_beds l D ad ca t1.2 v84 q hq) xh_0 rfl rfl (by decide) rfl (Nat.le_of_ble_eq_true rfl) dL_law_597 hf (fun p85 hf => ?_)
          refine xr_aload_n B dL_law_600 rfl rfl ?_
          refine xr_aload_n B dL_law_601 rfl rfl ?_
          refine xr_iload_n B dL_law_602 rfl rfl ?_
          refine xr_iconst B (v := 1) dL_law_603 (by decide) ?_
          refine xr_iadd B dL_law_604 ?_
          refine SC.1 _ _ _ _ _ _ dL_law_605 hf (fun v86 hf => ?_)
          refine xr_cVI B (rest := [.int p85.1]) [.int v86] xm_X11_beds xv_L_81 (fun q hq => xc_X11_beds l D ad ca p85.2 v86 q hq) xh_49 rfl rfl (by decide) rfl (Nat.le_of_ble_eq_true rfl) dL_law_606 hf (fun p87 hf => ?_)
          refine xr_ic_eq B (tgt := 1025) dL_law_609 (by decide) hf (fun _ hf => ?_) (fun _ hf => ?_)
          · exact hj7 p87.2 hf
          · refine xr_iconst B (v := 0) dL_law_612 (by decide) ?_
            exact absurd (Option.some.inj hf) (by decide)
        rw [if_neg hc15] at hf
        by_cases hc16 : v9 = 16
        · rw [if_pos hc16] at hf
          refine xr_tabI B (off := 582) (tgt := 614) dL_law_32 (by rw [hc16]; decide) (by rw [hc16]; decide) (by rw [hc16]; decide) (by decide) ?_
          refine xr_aload_n B dL_law_614 rfl rfl ?_
          refine xr_aload_n B dL_law_615 rfl rfl ?_
          refine xr_iload_n B dL_law_616 rfl rfl ?_
          refine xr_iconst B (v := 1) dL_law_617 (by decide) ?_
          refine xr_iadd B dL_law_618 ?_
          refine SC.1 _ _ _ _ _ _ dL_law_619 hf (fun v88 hf => ?_)
          refine xr_aload_n B dL_law_620 rfl rfl ?_
          refine xr_iload_n B dL_law_621 rfl rfl ?_
          refine xr_iconst B (v := 2) dL_law_622 (by decide) ?_
          refine xr_iadd B dL_law_623 ?_
          refine SC.1 _ _ _ _ _ _ dL_law_624 hf (fun v89 hf => ?_)
          refine xr_cVI B (rest := []) [.int v88, .int v89] xm_X10_feedings xv_L_82 (fun q hq => xc_X10_feedings l D ad ca t1.2 v88 v89 q hq) xh_0 rfl rfl (by decide) rfl (Nat.le_of_ble_eq_true rfl) dL_law_625 hf (fun p90 hf => ?_)
          refine xr_aload_n B dL_law_628 rfl rfl ?_
          refine xr_aload_n B dL_law_629 rfl rfl ?_
          refine xr_iload_n B dL_law_630 rfl rfl ?_
          refine xr_iconst B (v := 1) dL_law_631 (by decide) ?_
          refine xr_iadd B dL_law_632 ?_
          refine SC.1 _ _ _ _ _ _ dL_law_633 hf (fun v91 hf => ?_)
          refine xr_aload_n B dL_law_634 rfl rfl ?_
          refine xr_iload_n B dL_law_635 rfl rfl ?_
          refine xr_iconst B (v := 2) dL_law_636 (by decide) ?_
          refine xr_iadd B dL_law_637 ?_
          refine SC.1 _ _ _ _ _ _ dL_law_638 hf (fun v92 hf => ?_)
          refine xr_cVI B (rest := [.int p90.1]) [.int v91, .int v92] xm_X11_feedings xv_L_85 (fun q hq => xc_X11_feedings l D ad ca p90.2 v91 v92 q hq) xh_49 rfl rfl (by decide) rfl (Nat.le_of_ble_eq_true rfl) dL_law_639 hf (fun p93 hf => ?_)
          refine xr_ic_eq B (tgt := 1025) dL_law_642 (by decide) hf (fun _ hf => ?_) (fun _ hf => ?_)
          · exact hj7 p93.2 hf
          · refine xr_iconst B (v := 0) dL_law_645 (by decide) ?_
            exact absurd (Option.some.inj hf) (by decide)
        rw [if_neg hc16] at hf
        by_cases hc17 : v9 = 17
        · rw [if_pos hc17] at hf
          refine xr_tabI B (off := 615) (tgt := 647) dL_law_32 (by rw [hc17]; decide) (by rw [hc17]; decide) (by rw [hc17]; decide) (by decide) ?_
          refine xr_aload_n B dL_law_647 rfl rfl ?_
          refine xr_aload_n B dL_law_648 rfl rfl ?_
          refine xr_iload_n B dL_law_649 rfl rfl ?_
          refine xr_iconst B (v := 1) dL_law_650 (by decide) ?_
          refine xr_iadd B dL_law_651 ?_
          refine SC.1 _ _ _ _ _ _ dL_law_652 hf (fun v94 hf => ?_)
          refine xr_aload_n B dL_law_653 rfl rfl ?_
          refine xr_iload_n B dL_law_654 rfl rfl ?_
          refine xr_iconst B (v := 2) dL_law_655 (by decide) ?_
          refine xr_iadd B dL_law_656 ?_
          refine SC.1 _ _ _ _ _ _ dL_law_657 hf (fun v95 hf => ?_)
          refine xr_aload_n B dL_law_658 rfl rfl ?_
          refine xr_iload_n B dL_law_659 rfl rfl ?_
          refine xr_iconst B (v := 3) dL_law_660 (by decide) ?_
          refine xr_iadd B dL_law_661 ?_
          refine SC.1 _ _ _ _ _ _ dL_law_662 hf (fun v96 hf => ?_)
          refine xr_cVI B (rest := []) [.int v94, .int v95, .int v96] xm_X10_foretold xv_L_86 (fun q hq => xc_X10_foretold l D ad ca t1.2 v94 v95 v96 q hq) xh_0 rfl rfl (by decide) rfl (Nat.le_of_ble_eq_true rfl) dL_law_663 hf (fun p97 hf => ?_)
          refine xr_aload_n B dL_law_666 rfl rfl ?_
          refine xr_aload_n B dL_law_667 rfl rfl ?_
          refine xr_iload_n B dL_law_668 rfl rfl ?_
          refine xr_iconst B (v := 1) dL_law_669 (by decide) ?_
          refine xr_iadd B dL_law_670 ?_
          refine SC.1 _ _ _ _ _ _ dL_law_671 hf (fun v98 hf => ?_)
          refine xr_aload_n B dL_law_672 rfl rfl ?_
          refine xr_iload_n B dL_law_673 rfl rfl ?_
          refine xr_iconst B (v := 2) dL_law_674 (by decide) ?_
          refine xr_iadd B dL_law_675 ?_
          refine SC.1 _ _ _ _ _ _ dL_law_676 hf (fun v99 hf => ?_)
          refine xr_aload_n B dL_law_677 rfl rfl ?_
          refine xr_iload_n B dL_law_678 rfl rfl ?_
          refine xr_iconst B (v := 3) dL_law_679 (by decide) ?_
          refine xr_iadd B dL_law_680 ?_
          refine SC.1 _ _ _ _ _ _ dL_law_681 hf (fun v100 hf => ?_)
          refine xr_cVI B (rest := [.int p97.1]) [.int v98, .int v99, .int v100] xm_X11_foretold xv_L_89 (fun q hq => xc_X11_foretold l D ad ca p97.2 v98 v99 v100 q hq) xh_49 rfl rfl (by decide) rfl (Nat.le_of_ble_eq_true rfl) dL_law_682 hf (fun p101 hf => ?_)
          refine xr_ic_eq B (tgt := 1025) dL_law_685 (by decide) hf (fun _ hf => ?_) (fun _ hf => ?_)
          · exact hj7 p101.2 hf
          · refine xr_iconst B (v := 0) dL_law_688 (by decide) ?_
            exact absurd (Option.some.inj hf) (by decide)
        rw [if_neg hc17] at hf
        by_cases hc18 : v9 = 18
        · rw [if_pos hc18] at hf
          refine xr_tabI B (off := 658) (tgt := 690) dL_law_32 (by rw [hc18]; decide) (by rw [hc18]; decide) (by rw [hc18]; decide) (by decide) ?_
          refine xr_aload_n B dL_law_690 rfl rfl ?_
          refine xr_cVI B (rest := []) [] xm_X10_settled xv_L_90 (fun q hq => xc_X10_settled l D ad ca t1.2 q hq) xh_0 rfl rfl (by decide) rfl (Nat.le_of_ble_eq_true rfl) dL_law_691 hf (fun p102 hf => ?_)
          refine xr_aload_n B dL_law_694 rfl rfl ?_
          refine xr_cVI B (rest := [.int p102.1]) [] xm_X11_settled xv_L_93 (fun q hq => xc_X11_settled l D ad ca p102.2 q hq) xh_49 rfl rfl (by decide) rfl (Nat.le_of_ble_eq_true rfl) dL_law_695 hf (fun p103 hf => ?_)
          refine xr_ic_eq B (tgt := 1025) dL_law_698 (by decide) hf (fun _ hf => ?_) (fun _ hf => ?_)
          · exact hj7 p103.2 hf
          · refine xr_iconst B (v := 0) dL_law_701 (by decide) ?_
            exact absurd (Option.some.inj hf) (by decide)
        rw [if_neg hc18] at hf
        by_cases hc19 : v9 = 19
        · rw [if_pos hc19] at hf
          refine xr_tabI B (off := 671) (tgt := 703) dL_law_32 (by rw [hc19]; decide) (by rw [hc19]; decide) (by rw [hc19]; decide) (by decide) ?_
          refine xr_aload_n B dL_law_703 rfl rfl ?_
          refine xr_aload_n B dL_law_704 rfl rfl ?_
          refine xr_iload_n B dL_law_705 rfl rfl ?_
          refine xr_iconst B (v := 1) dL_law_706 (by decide) ?_
          refine xr_iadd B dL_law_707 ?_
          refine SC.1 _ _ _ _ _ _ dL_law_708 hf (fun v104 hf => ?_)
          refine xr_aload_n B dL_law_709 rfl rfl ?_
          refine xr_iload_n B dL_law_710 rfl rfl ?_
          refine xr_iconst B (v := 2) dL_law_711 (by decide) ?_
          refine xr_iadd B dL_law_712 ?_
          refine SC.1 _ _ _ _ _ _ dL_law_713 hf (fun v105 hf => ?_)
          refine xr_cVI B (rest := []) [.int v104, .int v105] xm_X10_awake xv_L_94 (fun q hq => xc_X10_awake l D ad ca t1.2 v104 v105 q hq) xh_0 rfl rfl (by decide) rfl (Nat.le_of_ble_eq_true rfl) dL_law_714 hf (fun p106 hf => ?_)
          refine xr_aload_n B dL_law_717 rfl rfl ?_
          refine xr_aload_n B dL_law_718 rfl rfl ?_
          refine xr_iload_n B dL_law_719 rfl rfl ?_
          refine xr_iconst B (v := 1) dL_law_720 (by decide) ?_
          refine xr_iadd B dL_law_721 ?_
          refine SC.1 _ _ _ _ _ _ dL_law_722 hf (fun v107 hf => ?_)
          refine xr_aload_n B dL_law_723 rfl rfl ?_
          refine xr_iload_n B dL_law_724 rfl rfl ?_
          refine xr_iconst B (v := 2) dL_law_725 (by decide) ?_
          refine xr_iadd B dL_law_726 ?_
          refine SC.1 _ _ _ _ _ _ dL_law_727 hf (fun v108 hf => ?_)
          refine xr_cVI B (rest := [.int p106.1]) [.int v107, .int v108] xm_X11_awake xv_L_97 (fun q hq => xc_X11_awake l D ad ca p106.2 v107 v108 q hq) xh_49 rfl rfl (by decide) rfl (Nat.le_of_ble_eq_true rfl) dL_law_728 hf (fun p109 hf => ?_)
          refine xr_ic_eq B (tgt := 1025) dL_law_731 (by decide) hf (fun _ hf => ?_) (fun _ hf => ?_)
          · exact hj7 p109.2 hf
          · refine xr_iconst B (v := 0) dL_law_734 (by decide) ?_
            exact absurd (Option.some.inj hf) (by decide)
        rw [if_neg hc19] at hf
        by_cases hc20 : v9 = 20
        · rw [if_pos hc20] at hf
          refine xr_tabI B (off := 704) (tgt := 736) dL_law_32 (by rw [hc20]; decide) (by rw [hc20]; decide) (by rw [hc20]; decide) (by decide) ?_
          refine xr_aload_n B dL_law_736 rfl rfl ?_
          refine xr_aload_n B dL_law_737 rfl rfl ?_
          refine xr_iload_n B dL_law_738 rfl rfl ?_
          refine xr_iconst B (v := 1) dL_law_739 (by decide) ?_
          refine xr_iadd B dL_law_740 ?_
          refine SC.1 _ _ _ _ _ _ dL_law_741 hf (fun v110 hf => ?_)
          refine xr_cVI B (rest := []) [.int v110] xm_X10_bite xv_L_98 (fun q hq => xc_X10_bite l D ad ca t1.2 v110 q hq) xh_0 rfl rfl (by decide) rfl (Nat.le_of_ble_eq_true rfl) dL_law_742 hf (fun p111 hf => ?_)
          refine xr_aload_n B dL_law_745 rfl rfl ?_
          refine xr_aload_n B dL_law_746 rfl rfl ?_
          refine xr_iload_n B dL_law_747 rfl rfl ?_
          refine xr_iconst B (v := 1) dL_law_748 (by decide) ?_
          refine xr_iadd B dL_law_749 ?_
          refine SC.1 _ _ _ _ _ _ dL_law_750 hf (fun v112 hf => ?_)
          refine xr_cVI B (rest := [.int p111.1]) [.int v112] xm_X11_bite xv_L_101 (fun q hq => xc_X11_bite l D ad ca p111.2 v112 q hq) xh_49 rfl rfl (by decide) rfl (Nat.le_of_ble_eq_true rfl) dL_law_751 hf (fun p113 hf => ?_)
          refine xr_ic_eq B (tgt := 1025) dL_law_754 (by decide) hf (fun _ hf => ?_) (fun _ hf => ?_)
          · exact hj7 p113.2 hf
          · refine xr_iconst B (v := 0) dL_law_757 (by decide) ?_
            exact absurd (Option.some.inj hf) (by decide)
        rw [if_neg hc20] at hf
        by_cases hc21 : v9 = 21
        · rw [if_pos hc21] at hf
          refine xr_tabI B (off := 727) (tgt := 759) dL_law_32 (by rw [hc21]; decide) (by rw [hc21]; decide) (by rw [hc21]; decide) (by decide) ?_
          refine xr_aload_n B dL_law_759 rfl rfl ?_
          refine xr_cVi B (rest := []) [] xm_X10_mayBe xv_L_102 (fun q hq => xc_X10_mayBe l D ad ca t1.2 q hq) xh_0 rfl rfl (by decide) rfl (Nat.le_of_ble_eq_true rfl) dL_law_760 hf (fun v114 hf => ?_)
          refine xr_aload_n B dL_law_763 rfl rfl ?_
          refine xr_cVi B (rest := [.int v114]) [] xm_X11_mayBe xv_L_105 (fun q hq => xc_X11_mayBe l D ad ca t1.2 q hq) xh_49 rfl rfl (by decide) rfl (Nat.le_of_ble_eq_true rfl) dL_law_764 hf (fun v115 hf => ?_)
          refine xr_ic_eq B (tgt := 1025) dL_law_767 (by decide) hf (fun _ hf => ?_) (fun _ hf => ?_)
          · exact hj7 t1.2 hf
          · refine xr_iconst B (v := 0) dL_law_770 (by decide) ?_
            exact absurd (Option.some.inj hf) (by decide)
        rw [if_neg hc21] at hf
        by_cases hc22 : v9 = 22
        · rw [if_pos hc22] at hf
          refine xr_tabI B (off := 740) (tgt := 772) dL_law_32 (by rw [hc22]; decide) (by rw [hc22]; decide) (by rw [hc22]; decide) (by decide) ?_
          refine xr_aload_n B dL_law_772 rfl rfl ?_
          refine xr_cVi B (rest := []) [] xm_X10_whose xv_L_106 (fun q hq => xc_X10_whose l D ad ca t1.2 q hq) xh_0 rfl rfl (by decide) rfl (Nat.le_of_ble_eq_true rfl) dL_law_773 hf (fun v116 hf => ?_)
          refine xr_aload_n B dL_law_776 rfl rfl ?_
          refine xr_cVi B (rest := [.int v116]) [] xm_X11_whose xv_L_109 (fun q hq => xc_X11_whose l D ad ca t1.2 q hq) xh_49 rfl rfl (by decide) rfl (Nat.le_of_ble_eq_true rfl) dL_law_777 hf (fun v117 hf => ?_)
          refine xr_ic_eq B (tgt := 1025) dL_law_780 (by decide) hf (fun _ hf => ?_) (fun _ hf => ?_)
          · exact hj7 t1.2 hf
          · refine xr_iconst B (v := 0) dL_law_783 (by decide) ?_
            exact absurd (Option.some.inj hf) (by decide)
        rw [if_neg hc22] at hf
        by_cases hc23 : v9 = 23
        · rw [if_pos hc23] at hf
          refine xr_tabI B (off := 753) (tgt := 785) dL_law_32 (by rw [hc23]; decide) (by rw [hc23]; decide) (by rw [hc23]; decide) (by decide) ?_
          refine xr_aload_n B dL_law_785 rfl rfl ?_
          refine xr_aload_n B dL_law_786 rfl rfl ?_
          refine xr_iload_n B dL_law_787 rfl rfl ?_
          refine xr_iconst B (v := 1) dL_law_788 (by decide) ?_
          refine xr_iadd B dL_law_789 ?_
          refine SC.1 _ _ _ _ _ _ dL_law_790 hf (fun v118 hf => ?_)
          refine xr_cVi B (rest := []) [.int v118] xm_X10_howLikely xv_L_110 (fun q hq => xc_X10_howLikely l D ad ca t1.2 v118 q hq) xh_0 rfl rfl (by decide) rfl (Nat.le_of_ble_eq_true rfl) dL_law_791 hf (fun v119 hf => ?_)
          refine xr_aload_n B dL_law_794 rfl rfl ?_
          refine xr_aload_n B dL_law_795 rfl rfl ?_
          refine xr_iload_n B dL_law_796 rfl rfl ?_
          refine xr_iconst B (v := 1) dL_law_797 (by decide) ?_
          refine xr_iadd B dL_law_798 ?_
          refine SC.1 _ _ _ _ _ _ dL_law_799 hf (fun v120 hf => ?_)
          refine xr_cVi B (rest := [.int v119]) [.int v120] xm_X11_howLikely xv_L_113 (fun q hq => xc_X11_howLikely l D ad ca t1.2 v120 q hq) xh_49 rfl rfl (by decide) rfl (Nat.le_of_ble_eq_true rfl) dL_law_800 hf (fun v121 hf => ?_)
          refine xr_ic_eq B (tgt := 1025) dL_law_803 (by decide) hf (fun _ hf => ?_) (fun _ hf => ?_)
          · exact hj7 t1.2 hf
          · refine xr_iconst B (v := 0) dL_law_806 (by decide) ?_
            exact absurd (Option.some.inj hf) (by decide)
        rw [if_neg hc23] at hf
        by_cases hc24 : v9 = 24
        · rw [if_pos hc24] at hf
          refine xr_tabI B (off := 776) (tgt := 808) dL_law_32 (by rw [hc24]; decide) (by rw [hc24]; decide) (by rw [hc24]; decide) (by decide) ?_
          refine xr_aload_n B dL_law_808 rfl rfl ?_
          refine xr_aload_n B dL_law_809 rfl rfl ?_
          refine xr_iload_n B dL_law_810 rfl rfl ?_
          refine xr_iconst B (v := 1) dL_law_811 (by decide) ?_
          refine xr_iadd B dL_law_812 ?_
          refine SC.1 _ _ _ _ _ _ dL_law_813 hf (fun v122 hf => ?_)
          refine xr_cVI B (rest := []) [.int v122] xm_X10_crumbs xv_L_114 (fun q hq => xc_X10_crumbs l D ad ca t1.2 v122 q hq) xh_0 rfl rfl (by decide) rfl (Nat.le_of_ble_eq_true rfl) dL_law_814 hf (fun p123 hf => ?_)
          refine xr_aload_n B dL_law_817 rfl rfl ?_
          refine xr_aload_n B dL_law_818 rfl rfl ?_
          refine xr_iload_n B dL_law_819 rfl rfl ?_
          refine xr_iconst B (v := 1) dL_law_820 (by decide) ?_
          refine xr_iadd B dL_law_821 ?_
          refine SC.1 _ _ _ _ _ _ dL_law_822 hf (fun v124 hf => ?_)
          refine xr_cVI B (rest := [.int p123.1]) [.int v124] xm_X11_crumbs xv_L_117 (fun q hq => xc_X11_crumbs l D ad ca p123.2 v124 q hq) xh_49 rfl rfl (by decide) rfl (Nat.le_of_ble_eq_true rfl) dL_law_823 hf (fun p125 hf => ?_)
          refine xr_ic_eq B (tgt := 1025) dL_law_826 (by decide) hf (fun _ hf => ?_) (fun _ hf => ?_)
          · exact hj7 p125.2 hf
          · refine xr_iconst B (v := 0) dL_law_829 (by decide) ?_
            exact absurd (Option.some.inj hf) (by decide)
        rw [if_neg hc24] at hf
        by_cases hc25 : v9 = 25
        · rw [if_pos hc25] at hf
          refine xr_tabI B (off := 799) (tgt := 831) dL_law_32 (by rw [hc25]; decide) (by rw [hc25]; decide) (by rw [hc25]; decide) (by decide) ?_
          refine xr_aload_n B dL_law_831 rfl rfl ?_
          refine xr_aload_n B dL_law_832 rfl rfl ?_
          refine xr_iload_n B dL_law_833 rfl rfl ?_
          refine xr_iconst B (v := 1) dL_law_834 (by decide) ?_
          refine xr_iadd B dL_law_835 ?_
          refine SC.1 _ _ _ _ _ _ dL_law_836 hf (fun v126 hf => ?_)
          refine xr_aload_n B dL_law_837 rfl rfl ?_
          refine xr_iload_n B dL_law_838 rfl rfl ?_
          refine xr_iconst B (v := 2) dL_law_839 (by decide) ?_
          refine xr_iadd B dL_law_840 ?_
          refine SC.1 _ _ _ _ _ _ dL_law_841 hf (fun v127 hf => ?_)
          refine xr_cVi B (rest := []) [.int v126, .int v127] xm_X10_hire xv_L_118 (fun q hq => xc_X10_hire l D ad ca t1.2 v126 v127 q hq) xh_0 rfl rfl (by decide) rfl (Nat.le_of_ble_eq_true rfl) dL_law_842 hf (fun v128 hf => ?_)
          refine xr_aload_n B dL_law_845 rfl rfl ?_
          refine xr_aload_n B dL_law_846 rfl rfl ?_
          refine xr_iload_n B dL_law_847 rfl rfl ?_
          refine xr_iconst B (v := 1) dL_law_848 (by decide) ?_
          refine xr_iadd B dL_law_849 ?_
          refine SC.1 _ _ _ _ _ _ dL_law_850 hf (fun v129 hf => ?_)
          refine xr_aload_n B dL_law_851 rfl rfl ?_
          refine xr_iload_n B dL_law_852 rfl rfl ?_
          refine xr_iconst B (v := 2) dL_law_853 (by decide) ?_
          refine xr_iadd B dL_law_854 ?_
          refine SC.1 _ _ _ _ _ _ dL_law_855 hf (fun v130 hf => ?_)
          refine xr_cVi B (rest := [.int v128]) [.int v129, .int v130] xm_X11_hire xv_L_121 (fun q hq => xc_X11_hire l D ad ca t1.2 v129 v130 q hq) xh_49 rfl rfl (by decide) rfl (Nat.le_of_ble_eq_true rfl) dL_law_856 hf (fun v131 hf => ?_)
          refine xr_ic_eq B (tgt := 1025) dL_law_859 (by decide) hf (fun _ hf => ?_) (fun _ hf => ?_)
          · exact hj7 t1.2 hf
          · refine xr_iconst B (v := 0) dL_law_862 (by decide) ?_
            exact absurd (Option.some.inj hf) (by decide)
        rw [if_neg hc25] at hf
        by_cases hc26 : v9 = 26
        · rw [if_pos hc26] at hf
          refine xr_tabI B (off := 832) (tgt := 864) dL_law_32 (by rw [hc26]; decide) (by rw [hc26]; decide) (by rw [hc26]; decide) (by decide) ?_
          refine xr_aload_n B dL_law_864 rfl rfl ?_
          refine xr_aload_n B dL_law_865 rfl rfl ?_
          refine xr_iload_n B dL_law_866 rfl rfl ?_
          refine xr_iconst B (v := 1) dL_law_867 (by decide) ?_
          refine xr_iadd B dL_law_868 ?_
          refine SC.1 _ _ _ _ _ _ dL_law_869 hf (fun v132 hf => ?_)
          refine xr_cVI B (rest := []) [.int v132] xm_X10_bread xv_L_122 (fun q hq => xc_X10_bread l D ad ca t1.2 v132 q hq) xh_0 rfl rfl (by decide) rfl (Nat.le_of_ble_eq_true rfl) dL_law_870 hf (fun p133 hf => ?_)
          refine xr_aload_n B dL_law_873 rfl rfl ?_
          refine xr_aload_n B dL_law_874 rfl rfl ?_
          refine xr_iload_n B dL_law_875 rfl rfl ?_
          refine xr_iconst B (v := 1) dL_law_876 (by decide) ?_
          refine xr_iadd B dL_law_877 ?_
          refine SC.1 _ _ _ _ _ _ dL_law_878 hf (fun v134 hf => ?_)
          refine xr_cVI B (rest := [.int p133.1]) [.int v134] xm_X11_bread xv_L_125 (fun q hq => xc_X11_bread l D ad ca p133.2 v134 q hq) xh_49 rfl rfl (by decide) rfl (Nat.le_of_ble_eq_true rfl) dL_law_879 hf (fun p135 hf => ?_)
          refine xr_ic_eq B (tgt := 1025) dL_law_882 (by decide) hf (fun _ hf => ?_) (fun _ hf => ?_)
          · exact hj7 p135.2 hf
          · refine xr_iconst B (v := 0) dL_law_885 (by decide) ?_
            exact absurd (Option.some.inj hf) (by decide)
        rw [if_neg hc26] at hf
        by_cases hc27 : v9 = 27
        · rw [if_pos hc27] at hf
          refine xr_tabI B (off := 855) (tgt := 887) dL_law_32 (by rw [hc27]; decide) (by rw [hc27]; decide) (by rw [hc27]; decide) (by decide) ?_
          refine xr_aload_n B dL_law_887 rfl rfl ?_
          refine xr_aload_n B dL_law_888 rfl rfl ?_
          refine xr_iload_n B dL_law_889 rfl rfl ?_
          refine xr_iconst B (v := 1) dL_law_890 (by decide) ?_
          refine xr_iadd B dL_law_891 ?_
          refine SC.1 _ _ _ _ _ _ dL_law_892 hf (fun v136 hf => ?_)
          refine xr_aload_n B dL_law_893 rfl rfl ?_
          refine xr_iload_n B dL_law_894 rfl rfl ?_
          refine xr_iconst B (v := 2) dL_law_895 (by decide) ?_
          refine xr_iadd B dL_law_896 ?_
          refine SC.1 _ _ _ _ _ _ dL_law_897 hf (fun v137 hf => ?_)
          refine xr_aload_n B dL_law_898 rfl rfl ?_
          refine xr_iload_n B dL_law_899 rfl rfl ?_
          refine xr_iconst B (v := 3) dL_law_900 (by decide) ?_
          refine xr_iadd B dL_law_901 ?_
          refine SC.1 _ _ _ _ _ _ dL_law_902 hf (fun v138 hf => ?_)
          refine xr_cVI B (rest := []) [.int v136, .int v137, .int v138] xm_X10_write xv_L_126 (fun q hq => xc_X10_write l D ad ca t1.2 v136 v137 v138 q hq) xh_0 rfl rfl (by decide) rfl (Nat.le_of_ble_eq_true rfl) dL_law_903 hf (fun p139 hf => ?_)
          refine xr_aload_n B dL_law_906 rfl rfl ?_
          refine xr_aload_n B dL_law_907 rfl rfl ?_
          refine xr_iload_n B dL_law_908 rfl rfl ?_
          refine xr_iconst B (v := 1) dL_law_909 (by decide) ?_
          refine xr_iadd B dL_law_910 ?_
          refine SC.1 _ _ _ _ _ _ dL_law_911 hf (fun v140 hf => ?_)
          refine xr_aload_n B dL_law_912 rfl rfl ?_
          refine xr_iload_n B dL_law_913 rfl rfl ?_
          refine xr_iconst B (v := 2) dL_law_914 (by decide) ?_
          refine xr_iadd B dL_law_915 ?_
          refine SC.1 _ _ _ _ _ _ dL_law_916 hf (fun v141 hf => ?_)
          refine xr_aload_n B dL_law_917 rfl rfl ?_
          refine xr_iload_n B dL_law_918 rfl rfl ?_
          refine xr_iconst B (v := 3) dL_law_919 (by decide) ?_
          refine xr_iadd B dL_law_920 ?_
          refine SC.1 _ _ _ _ _ _ dL_law_921 hf (fun v142 hf => ?_)
          refine xr_cVI B (rest := [.int p139.1]) [.int v140, .int v141, .int v142] xm_X11_write xv_L_129 (fun q hq => xc_X11_write l D ad ca p139.2 v140 v141 v142 q hq) xh_49 rfl rfl (by decide) rfl (Nat.le_of_ble_eq_true rfl) dL_law_922 hf (fun p143 hf => ?_)
          refine xr_ic_eq B (tgt := 1025) dL_law_925 (by decide) hf (fun _ hf => ?_) (fun _ hf => ?_)
          · exact hj7 p143.2 hf
          · refine xr_iconst B (v := 0) dL_law_928 (by decide) ?_
            exact absurd (Option.some.inj hf) (by decide)
        rw [if_neg hc27] at hf
        by_cases hc28 : v9 = 28
        · rw [if_pos hc28] at hf
          refine xr_tabI B (off := 898) (tgt := 930) dL_law_32 (by rw [hc28]; decide) (by rw [hc28]; decide) (by rw [hc28]; decide) (by decide) ?_
          refine xr_aload_n B dL_law_930 rfl rfl ?_
          refine xr_cVI B (rest := []) [] xm_X10_tear xv_L_130 (fun q hq => xc_X10_tear l D ad ca t1.2 q hq) xh_0 rfl rfl (by decide) rfl (Nat.le_of_ble_eq_true rfl) dL_law_931 hf (fun p144 hf => ?_)
          refine xr_aload_n B dL_law_934 rfl rfl ?_
          refine xr_cVI B (rest := [.int p144.1]) [] xm_X11_tear xv_L_133 (fun q hq => xc_X11_tear l D ad ca p144.2 q hq) xh_49 rfl rfl (by decide) rfl (Nat.le_of_ble_eq_true rfl) dL_law_935 hf (fun p145 hf => ?_)
          refine xr_ic_eq B (tgt := 1025) dL_law_938 (by decide) hf (fun _ hf => ?_) (fun _ hf => ?_)
          · exact hj7 p145.2 hf
          · refine xr_iconst B (v := 0) dL_law_941 (by decide) ?_
            exact absurd (Option.some.inj hf) (by decide)
        rw [if_neg hc28] at hf
        by_cases hc29 : v9 = 29
        · rw [if_pos hc29] at hf
          refine xr_tabI B (off := 911) (tgt := 943) dL_law_32 (by rw [hc29]; decide) (by rw [hc29]; decide) (by rw [hc29]; decide) (by decide) ?_
          refine xr_aload_n B dL_law_943 rfl rfl ?_
          refine xr_cVi B (rest := []) [] xm_X10_judge xv_L_134 (fun q hq => xc_X10_judge l D ad ca t1.2 q hq) xh_0 rfl rfl (by decide) rfl (Nat.le_of_ble_eq_true rfl) dL_law_944 hf (fun v146 hf => ?_)
          refine xr_aload_n B dL_law_947 rfl rfl ?_
          refine xr_cVi B (rest := [.int v146]) [] xm_X11_judge xv_L_137 (fun q hq => xc_X11_judge l D ad ca t1.2 q hq) xh_49 rfl rfl (by decide) rfl (Nat.le_of_ble_eq_true rfl) dL_law_948 hf (fun v147 hf => ?_)
          refine xr_ic_eq B (tgt := 1025) dL_law_951 (by decide) hf (fun _ hf => ?_) (fun _ hf => ?_)
          · exact hj7 t1.2 hf
          · refine xr_iconst B (v := 0) dL_law_954 (by decide) ?_
            exact absurd (Option.some.inj hf) (by decide)
        rw [if_neg hc29] at hf
        by_cases hc30 : v9 = 30
        · rw [if_pos hc30] at hf
          refine xr_tabI B (off := 924) (tgt := 956) dL_law_32 (by rw [hc30]; decide) (by rw [hc30]; decide) (by rw [hc30]; decide) (by decide) ?_
          refine xr_aload_n B dL_law_956 rfl rfl ?_
          refine xr_aload_n B dL_law_957 rfl rfl ?_
          refine xr_iload_n B dL_law_958 rfl rfl ?_
          refine xr_iconst B (v := 1) dL_law_959 (by decide) ?_
          refine xr_iadd B dL_law_960 ?_
          refine SC.1 _ _ _ _ _ _ dL_law_961 hf (fun v148 hf => ?_)
          refine xr_cVI B (rest := []) [.int v148] xm_X10_seed xv_L_138 (fun q hq => xc_X10_seed l D ad ca t1.2 v148 q hq) xh_0 rfl rfl (by decide) rfl (Nat.le_of_ble_eq_true rfl) dL_law_962 hf (fun p149 hf => ?_)
          refine xr_aload_n B dL_law_965 rfl rfl ?_
          refine xr_aload_n B dL_law_966 rfl rfl ?_
          refine xr_iload_n B dL_law_967 rfl rfl ?_
          refine xr_iconst B (v := 1) dL_law_968 (by decide) ?_
          refine xr_iadd B dL_law_969 ?_
          refine SC.1 _ _ _ _ _ _ dL_law_970 hf (fun v150 hf => ?_)
          refine xr_cVI B (rest := [.int p149.1]) [.int v150] xm_X11_seed xv_L_141 (fun q hq => xc_X11_seed l D ad ca p149.2 v150 q hq) xh_49 rfl rfl (by decide) rfl (Nat.le_of_ble_eq_true rfl) dL_law_971 hf (fun p151 hf => ?_)
          refine xr_ic_eq B (tgt := 1025) dL_law_974 (by decide) hf (fun _ hf => ?_) (fun _ hf => ?_)
          · exact hj7 p151.2 hf
          · refine xr_iconst B (v := 0) dL_law_977 (by decide) ?_
            exact absurd (Option.some.inj hf) (by decide)
        rw [if_neg hc30] at hf
        by_cases hc31 : v9 = 31
        · rw [if_pos hc31] at hf
          refine xr_tabI B (off := 947) (tgt := 979) dL_law_32 (by rw [hc31]; decide) (by rw [hc31]; decide) (by rw [hc31]; decide) (by decide) ?_
          refine xr_aload_n B dL_law_979 rfl rfl ?_
          refine xr_aload_n B dL_law_980 rfl rfl ?_
          refine xr_iload_n B dL_law_981 rfl rfl ?_
          refine xr_iconst B (v := 1) dL_law_982 (by decide) ?_
          refine xr_iadd B dL_law_983 ?_
          refine SC.1 _ _ _ _ _ _ dL_law_984 hf (fun v152 hf => ?_)
          refine xr_cVI B (rest := []) [.int v152] xm_X10_keep xv_L_142 (fun q hq => xc_X10_keep l D ad ca t1.2 v152 q hq) xh_0 rfl rfl (by decide) rfl (Nat.le_of_ble_eq_true rfl) dL_law_985 hf (fun p153 hf => ?_)
          refine xr_aload_n B dL_law_988 rfl rfl ?_
          refine xr_aload_n B dL_law_989 rfl rfl ?_
          refine xr_iload_n B dL_law_990 rfl rfl ?_
          refine xr_iconst B (v := 1) dL_law_991 (by decide) ?_
          refine xr_iadd B dL_law_992 ?_
          refine SC.1 _ _ _ _ _ _ dL_law_993 hf (fun v154 hf => ?_)
          refine xr_cVI B (rest := [.int p153.1]) [.int v154] xm_X11_keep xv_L_145 (fun q hq => xc_X11_keep l D ad ca p153.2 v154 q hq) xh_49 rfl rfl (by decide) rfl (Nat.le_of_ble_eq_true rfl) dL_law_994 hf (fun p155 hf => ?_)
          refine xr_ic_eq B (tgt := 1025) dL_law_997 (by decide) hf (fun _ hf => ?_) (fun _ hf => ?_)
          · exact hj7 p155.2 hf
          · refine xr_iconst B (v := 0) dL_law_1000 (by decide) ?_
            exact absurd (Option.some.inj hf) (by decide)
        rw [if_neg hc31] at hf
        by_cases hc32 : v9 = 32
        · rw [if_pos hc32] at hf
          refine xr_tabI B (off := 970) (tgt := 1002) dL_law_32 (by rw [hc32]; decide) (by rw [hc32]; decide) (by rw [hc32]; decide) (by decide) ?_
          refine xr_aload_n B dL_law_1002 rfl rfl ?_
          refine xr_aload_n B dL_law_1003 rfl rfl ?_
          refine xr_iload_n B dL_law_1004 rfl rfl ?_
          refine xr_iconst B (v := 1) dL_law_1005 (by decide) ?_
          refine xr_iadd B dL_law_1006 ?_
          refine SC.1 _ _ _ _ _ _ dL_law_1007 hf (fun v156 hf => ?_)
          refine xr_cVI B (rest := []) [.int v156] xm_X10_goBack xv_L_146 (fun q hq => xc_X10_goBack l D ad ca t1.2 v156 q hq) xh_0 rfl rfl (by decide) rfl (Nat.le_of_ble_eq_true rfl) dL_law_1008 hf (fun p157 hf => ?_)
          refine xr_aload_n B dL_law_1011 rfl rfl ?_
          refine xr_aload_n B dL_law_1012 rfl rfl ?_
          refine xr_iload_n B dL_law_1013 rfl rfl ?_
          refine xr_iconst B (v := 1) dL_law_1014 (by decide) ?_
          refine xr_iadd B dL_law_1015 ?_
          refine SC.1 _ _ _ _ _ _ dL_law_1016 hf (fun v158 hf => ?_)
          refine xr_cVI B (rest := [.int p157.1]) [.int v158] xm_X11_goBack xv_L_149 (fun q hq => xc_X11_goBack l D ad ca p157.2 v158 q hq) xh_49 rfl rfl (by decide) rfl (Nat.le_of_ble_eq_true rfl) dL_law_1017 hf (fun p159 hf => ?_)
          refine xr_ic_eq B (tgt := 1025) dL_law_1020 (by decide) hf (fun _ hf => ?_) (fun _ hf => ?_)
          · exact hj7 p159.2 hf
          · refine xr_iconst B (v := 0) dL_law_1023 (by decide) ?_
            exact absurd (Option.some.inj hf) (by decide)
        rw [if_neg hc32] at hf
        refine xr_tabO B (tgt := 1025) dL_law_32 (xr_tout 32 (by decide) (fun j hj => ?_)) (by decide) ?_
        · match j, hj with
          | 0, _ => exact hc0
          | 1, _ => exact hc1
          | 2, _ => exact hc2
          | 3, _ => exact hc3
          | 4, _ => exact hc4
          | 5, _ => exact hc5
          | 6, _ => exact hc6
          | 7, _ => exact hc7
          | 8, _ => exact hc8
          | 9, _ => exact hc9
          | 10, _ => exact hc10
          | 11, _ => exact hc11
          | 12, _ => exact hc12
          | 13, _ => exact hc13
          | 14, _ => exact hc14
          | 15, _ => exact hc15
          | 16, _ => exact hc16
          | 17, _ => exact hc17
          | 18, _ => exact hc18
          | 19, _ => exact hc19
          | 20, _ => exact hc20
          | 21, _ => exact hc21
          | 22, _ => exact hc22
          | 23, _ => exact hc23
          | 24, _ => exact hc24
          | 25, _ => exact hc25
          | 26, _ => exact hc26
          | 27, _ => exact hc27
          | 28, _ => exact hc28
          | 29, _ => exact hc29
          | 30, _ => exact hc30
          | 31, _ => exact hc31
          | 32, _ => exact hc32
          | j + 33, hj => exact absurd hj (by omega)
        · exact hj7 t1.2 hf
