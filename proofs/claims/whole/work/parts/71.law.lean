/-! the law: every call alike, from a new object on -/
theorem xp_sc {α : Type} {L k : Nat} {xs : Nat → Int32} {F : Int32 → Option α} (hk : k < L) (hL : L ≤ 256) : xr_sc L xs (nI k) F = F (xs k) := by
  have h1 : ¬ (nI k < 0 ∨ L ≤ (nI k).toNatClampNeg) := nI_in hk (by omega)
  unfold xr_sc
  rw [if_neg h1, nI_clamp (by omega)]
set_option maxHeartbeats 4000000 in
theorem xz_step {σ : xr_S} {L j : Nat} {xs : Nat → Int32} {K : xr_S → Option Int32} (h : xi σ) (hL : L ≤ 256) (hj : 4 * j + 4 ≤ L) : ∃ σ', xi σ' ∧ ∀ rec, xf_L_law_L18 L xs K (nI (4 * j), σ) rec = rec (nI (4 * (j + 1)), σ') := by
  have hcond : ¬ (nI L - 4 < nI (4 * j)) := by
    rw [show (4 : Int32) = nI 4 from rfl, pk_sub (by omega)]
    exact nI_nlt (by omega) (by omega)
  have s0 : ∀ F : Int32 → Option Int32, xr_sc L xs (nI (4 * j)) F = F (xs (4 * j)) := fun F => xp_sc (by omega) hL
  have s1 : ∀ F : Int32 → Option Int32, xr_sc L xs (nI (4 * j) + 1) F = F (xs (4 * j + 1)) := fun F => by rw [nI_1]; exact xp_sc (by omega) hL
  have s2 : ∀ F : Int32 → Option Int32, xr_sc L xs (nI (4 * j) + 2) F = F (xs (4 * j + 2)) := fun F => by rw [show (2 : Int32) = nI 2 from rfl, nI_add]; exact xp_sc (by omega) hL
  have s3 : ∀ F : Int32 → Option Int32, xr_sc L xs (nI (4 * j) + 3) F = F (xs (4 * j + 3)) := fun F => by rw [show (3 : Int32) = nI 3 from rfl, nI_add]; exact xp_sc (by omega) hL
  have s4 : nI (4 * j) + 4 = nI (4 * (j + 1)) := by rw [show (4 : Int32) = nI 4 from rfl, nI_add, show 4 * j + 4 = 4 * (j + 1) by omega]
  obtain ⟨v, hv⟩ : ∃ v, v = xs (4 * j) &&& 63 := ⟨_, rfl⟩
  unfold xf_L_law_L18
  dsimp only
  simp only [if_neg hcond, s0, s4, xp_v, ← hv]
  by_cases h0 : v = 0
  · obtain ⟨r, σ1, σ2, e1, e2, e3⟩ := xy_feed h (xs (4 * j + 1))
    refine ⟨σ2, e3, fun rec => ?_⟩
    have e2' : xf_X11_feed σ1 (xs (4 * j + 1)) = some (r, σ2) := e2
    rw [xp_jn, if_pos h0]
    simp only [s1]
    rw [e1, Option.bind_some]
    dsimp only
    rw [e2', Option.bind_some]
    dsimp only
    rw [if_pos rfl]
  by_cases h1 : v = 1
  · obtain ⟨r, σ1, σ2, e1, e2, e3⟩ := xy_street h 
    refine ⟨σ2, e3, fun rec => ?_⟩
    have e2' : xf_X11_street σ1  = some (r, σ2) := e2
    rw [xp_jn, if_neg h0, if_pos h1]
    rw [e1, Option.bind_some]
    dsimp only
    rw [e2', Option.bind_some]
    dsimp only
    rw [if_pos rfl]
  by_cases h2 : v = 2
  · obtain ⟨r, e1, e2⟩ := xy_fault h 
    refine ⟨σ, h, fun rec => ?_⟩
    rw [xp_jn, if_neg h0, if_neg h1, if_pos h2]
    rw [e1, Option.bind_some, e2, Option.bind_some, if_pos rfl]
  by_cases h3 : v = 3
  · obtain ⟨r, e1, e2⟩ := xy_told h (xs (4 * j + 1))
    refine ⟨σ, h, fun rec => ?_⟩
    rw [xp_jn, if_neg h0, if_neg h1, if_neg h2, if_pos h3]
    simp only [s1]
    rw [e1, Option.bind_some, e2, Option.bind_some, if_pos rfl]
  by_cases h4 : v = 4
  · obtain ⟨r, e1, e2⟩ := xy_weight h (xs (4 * j + 1)) (xs (4 * j + 2))
    refine ⟨σ, h, fun rec => ?_⟩
    rw [xp_jn, if_neg h0, if_neg h1, if_neg h2, if_neg h3, if_pos h4]
    simp only [s1, s2]
    rw [e1, Option.bind_some, e2, Option.bind_some, if_pos rfl]
  by_cases h5 : v = 5
  · obtain ⟨r, e1, e2⟩ := xy_odds h (xs (4 * j + 1)) (xs (4 * j + 2)) (xs (4 * j + 3))
    refine ⟨σ, h, fun rec => ?_⟩
    rw [xp_jn, if_neg h0, if_neg h1, if_neg h2, if_neg h3, if_neg h4, if_pos h5]
    simp only [s1, s2, s3]
    rw [e1, Option.bind_some, e2, Option.bind_some, if_pos rfl]
  by_cases h6 : v = 6
  · obtain ⟨r, e1, e2⟩ := xy_likeliest h (xs (4 * j + 1))
    refine ⟨σ, h, fun rec => ?_⟩
    rw [xp_jn, if_neg h0, if_neg h1, if_neg h2, if_neg h3, if_neg h4, if_neg h5, if_pos h6]
    simp only [s1]
    rw [e1, Option.bind_some, e2, Option.bind_some, if_pos rfl]
  by_cases h7 : v = 7
  · obtain ⟨r, e1, e2⟩ := xy_loaf h (xs (4 * j + 1)) (xs (4 * j + 2))
    refine ⟨σ, h, fun rec => ?_⟩
    rw [xp_jn, if_neg h0, if_neg h1, if_neg h2, if_neg h3, if_neg h4, if_neg h5, if_neg h6, if_pos h7]
    simp only [s1, s2]
    rw [e1, Option.bind_some, e2, Option.bind_some, if_pos rfl]
  by_cases h8 : v = 8
  · obtain ⟨r, e1, e2⟩ := xy_worth h (xs (4 * j + 1)) (xs (4 * j + 2))
    refine ⟨σ, h, fun rec => ?_⟩
    rw [xp_jn, if_neg h0, if_neg h1, if_neg h2, if_neg h3, if_neg h4, if_neg h5, if_neg h6, if_neg h7, if_pos h8]
    simp only [s1, s2]
    rw [e1, Option.bind_some, e2, Option.bind_some, if_pos rfl]
  by_cases h9 : v = 9
  · obtain ⟨r, σ1, σ2, e1, e2, e3⟩ := xy_lay h (xs (4 * j + 1)) (xs (4 * j + 2))
    refine ⟨σ2, e3, fun rec => ?_⟩
    have e2' : xf_X11_lay σ1 (xs (4 * j + 1)) (xs (4 * j + 2)) = some (r, σ2) := e2
    rw [xp_jn, if_neg h0, if_neg h1, if_neg h2, if_neg h3, if_neg h4, if_neg h5, if_neg h6, if_neg h7, if_neg h8, if_pos h9]
    simp only [s1, s2]
    rw [e1, Option.bind_some]
    dsimp only
    rw [e2', Option.bind_some]
    dsimp only
    rw [if_pos rfl]
  by_cases h10 : v = 10
  · obtain ⟨r, σ1, σ2, e1, e2, e3⟩ := xy_takeOff h (xs (4 * j + 1))
    refine ⟨σ2, e3, fun rec => ?_⟩
    have e2' : xf_X11_takeOff σ1 (xs (4 * j + 1)) = some (r, σ2) := e2
    rw [xp_jn, if_neg h0, if_neg h1, if_neg h2, if_neg h3, if_neg h4, if_neg h5, if_neg h6, if_neg h7, if_neg h8, if_neg h9, if_pos h10]
    simp only [s1]
    rw [e1, Option.bind_some]
    dsimp only
    rw [e2', Option.bind_some]
    dsimp only
    rw [if_pos rfl]
  by_cases h11 : v = 11
  · obtain ⟨z, hz, hF⟩ : ∃ z : Int32, (z = 0 ∨ z = 1) ∧ ∀ F : Int32 → Option Int32, (if xs (4 * j + 2) = 0 then (F 0) else (F 1)) = F z := by
      by_cases hq : xs (4 * j + 2) = 0
      · exact ⟨0, Or.inl rfl, fun F => if_pos hq⟩
      · exact ⟨1, Or.inr rfl, fun F => if_neg hq⟩
    obtain ⟨r, σ1, σ2, e1, e2, e3⟩ := xy_wake h (xs (4 * j + 1)) z hz
    refine ⟨σ2, e3, fun rec => ?_⟩
    have e2' : xf_X11_wake σ1 (xs (4 * j + 1)) z = some (r, σ2) := e2
    have hJ : ∀ F : Int32 → Option Int32, xr_jn F (fun j65 => if xs (4 * j + 2) = 0 then (j65 0) else (j65 1)) = F z := fun F => by rw [xp_jn]; exact hF F
    rw [xp_jn, if_neg h0, if_neg h1, if_neg h2, if_neg h3, if_neg h4, if_neg h5, if_neg h6, if_neg h7, if_neg h8, if_neg h9, if_neg h10, if_pos h11]
    simp only [s1, s2, hJ]
    rw [e1, Option.bind_some]
    dsimp only
    rw [e2', Option.bind_some]
    dsimp only
    rw [if_pos rfl]
  by_cases h12 : v = 12
  · obtain ⟨r, σ1, σ2, e1, e2, e3⟩ := xy_night h (xs (4 * j + 1))
    refine ⟨σ2, e3, fun rec => ?_⟩
    have e2' : xf_X11_night σ1 (xs (4 * j + 1)) = some (r, σ2) := e2
    rw [xp_jn, if_neg h0, if_neg h1, if_neg h2, if_neg h3, if_neg h4, if_neg h5, if_neg h6, if_neg h7, if_neg h8, if_neg h9, if_neg h10, if_neg h11, if_pos h12]
    simp only [s1]
    rw [e1, Option.bind_some]
    dsimp only
    rw [e2', Option.bind_some]
    dsimp only
    rw [if_pos rfl]
  by_cases h13 : v = 13
  · obtain ⟨r, σ1, σ2, e1, e2, e3⟩ := xy_eat h (xs (4 * j + 1))
    refine ⟨σ2, e3, fun rec => ?_⟩
    have e2' : xf_X11_eat σ1 (xs (4 * j + 1)) = some (r, σ2) := e2
    rw [xp_jn, if_neg h0, if_neg h1, if_neg h2, if_neg h3, if_neg h4, if_neg h5, if_neg h6, if_neg h7, if_neg h8, if_neg h9, if_neg h10, if_neg h11, if_neg h12, if_pos h13]
    simp only [s1]
    rw [e1, Option.bind_some]
    dsimp only
    rw [e2', Option.bind_some]
    dsimp only
    rw [if_pos rfl]
  by_cases h14 : v = 14
  · obtain ⟨r, σ1, σ2, e1, e2, e3⟩ := xy_salt h (xs (4 * j + 1))
    refine ⟨σ2, e3, fun rec => ?_⟩
    have e2' : xf_X11_salt σ1 (xs (4 * j + 1)) = some (r, σ2) := e2
    rw [xp_jn, if_neg h0, if_neg h1, if_neg h2, if_neg h3, if_neg h4, if_neg h5, if_neg h6, if_neg h7, if_neg h8, if_neg h9, if_neg h10, if_neg h11, if_neg h12, if_neg h13, if_pos h14]
    simp only [s1]
    rw [e1, Option.bind_some]
    dsimp only
    rw [e2', Option.bind_some]
    dsimp only
    rw [if_pos rfl]
  by_cases h15 : v = 15
  · obtain ⟨r, σ1, σ2, e1, e2, e3⟩ := xy_beds h (xs (4 * j + 1))
    refine ⟨σ2, e3, fun rec => ?_⟩
    have e2' : xf_X11_beds σ1 (xs (4 * j + 1)) = some (r, σ2) := e2
    rw [xp_jn, if_neg h0, if_neg h1, if_neg h2, if_neg h3, if_neg h4, if_neg h5, if_neg h6, if_neg h7, if_neg h8, if_neg h9, if_neg h10, if_neg h11, if_neg h12, if_neg h13, if_neg h14, if_pos h15]
    simp only [s1]
    rw [e1, Option.bind_some]
    dsimp only
    rw [e2', Option.bind_some]
    dsimp only
    rw [if_pos rfl]
  by_cases h16 : v = 16
  · obtain ⟨r, σ1, σ2, e1, e2, e3⟩ := xy_feedings h (xs (4 * j + 1)) (xs (4 * j + 2))
    refine ⟨σ2, e3, fun rec => ?_⟩
    have e2' : xf_X11_feedings σ1 (xs (4 * j + 1)) (xs (4 * j + 2)) = some (r, σ2) := e2
    rw [xp_jn, if_neg h0, if_neg h1, if_neg h2, if_neg h3, if_neg h4, if_neg h5, if_neg h6, if_neg h7, if_neg h8, if_neg h9, if_neg h10, if_neg h11, if_neg h12, if_neg h13, if_neg h14, if_neg h15, if_pos h16]
    simp only [s1, s2]
    rw [e1, Option.bind_some]
    dsimp only
    rw [e2', Option.bind_some]
    dsimp only
    rw [if_pos rfl]
  by_cases h17 : v = 17
  · obtain ⟨r, σ1, σ2, e1, e2, e3⟩ := xy_foretold h (xs (4 * j + 1)) (xs (4 * j + 2)) (xs (4 * j + 3))
    refine ⟨σ2, e3, fun rec => ?_⟩
    have e2' : xf_X11_foretold σ1 (xs (4 * j + 1)) (xs (4 * j + 2)) (xs (4 * j + 3)) = some (r, σ2) := e2
    rw [xp_jn, if_neg h0, if_neg h1, if_neg h2, if_neg h3, if_neg h4, if_neg h5, if_neg h6, if_neg h7, if_neg h8, if_neg h9, if_neg h10, if_neg h11, if_neg h12, if_neg h13, if_neg h14, if_neg h15, if_neg h16, if_pos h17]
    simp only [s1, s2, s3]
    rw [e1, Option.bind_some]
    dsimp only
    rw [e2', Option.bind_some]
    dsimp only
    rw [if_pos rfl]
  by_cases h18 : v = 18
  · obtain ⟨r, σ1, σ2, e1, e2, e3⟩ := xy_settled h 
    refine ⟨σ2, e3, fun rec => ?_⟩
    have e2' : xf_X11_settled σ1  = some (r, σ2) := e2
    rw [xp_jn, if_neg h0, if_neg h1, if_neg h2, if_neg h3, if_neg h4, if_neg h5, if_neg h6, if_neg h7, if_neg h8, if_neg h9, if_neg h10, if_neg h11, if_neg h12, if_neg h13, if_neg h14, if_neg h15, if_neg h16, if_neg h17, if_pos h18]
    rw [e1, Option.bind_some]
    dsimp only
    rw [e2', Option.bind_some]
    dsimp only
    rw [if_pos rfl]
  by_cases h19 : v = 19
  · obtain ⟨r, σ1, σ2, e1, e2, e3⟩ := xy_awake h (xs (4 * j + 1)) (xs (4 * j + 2))
    refine ⟨σ2, e3, fun rec => ?_⟩
    have e2' : xf_X11_awake σ1 (xs (4 * j + 1)) (xs (4 * j + 2)) = some (r, σ2) := e2
    rw [xp_jn, if_neg h0, if_neg h1, if_neg h2, if_neg h3, if_neg h4, if_neg h5, if_neg h6, if_neg h7, if_neg h8, if_neg h9, if_neg h10, if_neg h11, if_neg h12, if_neg h13, if_neg h14, if_neg h15, if_neg h16, if_neg h17, if_neg h18, if_pos h19]
    simp only [s1, s2]
    rw [e1, Option.bind_some]
    dsimp only
    rw [e2', Option.bind_some]
    dsimp only
    rw [if_pos rfl]
  by_cases h20 : v = 20
  · obtain ⟨r, σ1, σ2, e1, e2, e3⟩ := xy_bite h (xs (4 * j + 1))
    refine ⟨σ2, e3, fun rec => ?_⟩
    have e2' : xf_X11_bite σ1 (xs (4 * j + 1)) = some (r, σ2) := e2
    rw [xp_jn, if_neg h0, if_neg h1, if_neg h2, if_neg h3, if_neg h4, if_neg h5, if_neg h6, if_neg h7, if_neg h8, if_neg h9, if_neg h10, if_neg h11, if_neg h12, if_neg h13, if_neg h14, if_neg h15, if_neg h16, if_neg h17, if_neg h18, if_neg h19, if_pos h20]
    simp only [s1]
    rw [e1, Option.bind_some]
    dsimp only
    rw [e2', Option.bind_some]
    dsimp only
    rw [if_pos rfl]
  by_cases h21 : v = 21
  · obtain ⟨r, e1, e2⟩ := xy_mayBe h 
    refine ⟨σ, h, fun rec => ?_⟩
    rw [xp_jn, if_neg h0, if_neg h1, if_neg h2, if_neg h3, if_neg h4, if_neg h5, if_neg h6, if_neg h7, if_neg h8, if_neg h9, if_neg h10, if_neg h11, if_neg h12, if_neg h13, if_neg h14, if_neg h15, if_neg h16, if_neg h17, if_neg h18, if_neg h19, if_neg h20, if_pos h21]
    rw [e1, Option.bind_some, e2, Option.bind_some, if_pos rfl]
  by_cases h22 : v = 22
  · obtain ⟨r, e1, e2⟩ := xy_whose h 
    refine ⟨σ, h, fun rec => ?_⟩
    rw [xp_jn, if_neg h0, if_neg h1, if_neg h2, if_neg h3, if_neg h4, if_neg h5, if_neg h6, if_neg h7, if_neg h8, if_neg h9, if_neg h10, if_neg h11, if_neg h12, if_neg h13, if_neg h14, if_neg h15, if_neg h16, if_neg h17, if_neg h18, if_neg h19, if_neg h20, if_neg h21, if_pos h22]
    rw [e1, Option.bind_some, e2, Option.bind_some, if_pos rfl]
  by_cases h23 : v = 23
  · obtain ⟨r, e1, e2⟩ := xy_howLikely h (xs (4 * j + 1))
    refine ⟨σ, h, fun rec => ?_⟩
    rw [xp_jn, if_neg h0, if_neg h1, if_neg h2, if_neg h3, if_neg h4, if_neg h5, if_neg h6, if_neg h7, if_neg h8, if_neg h9, if_neg h10, if_neg h11, if_neg h12, if_neg h13, if_neg h14, if_neg h15, if_neg h16, if_neg h17, if_neg h18, if_neg h19, if_neg h20, if_neg h21, if_neg h22, if_pos h23]
    simp only [s1]
    rw [e1, Option.bind_some, e2, Option.bind_some, if_pos rfl]
  by_cases h24 : v = 24
  · obtain ⟨r, σ1, σ2, e1, e2, e3⟩ := xy_crumbs h (xs (4 * j + 1))
    refine ⟨σ2, e3, fun rec => ?_⟩
    have e2' : xf_X11_crumbs σ1 (xs (4 * j + 1)) = some (r, σ2) := e2
    rw [xp_jn, if_neg h0, if_neg h1, if_neg h2, if_neg h3, if_neg h4, if_neg h5, if_neg h6, if_neg h7, if_neg h8, if_neg h9, if_neg h10, if_neg h11, if_neg h12, if_neg h13, if_neg h14, if_neg h15, if_neg h16, if_neg h17, if_neg h18, if_neg h19, if_neg h20, if_neg h21, if_neg h22, if_neg h23, if_pos h24]
    simp only [s1]
    rw [e1, Option.bind_some]
    dsimp only
    rw [e2', Option.bind_some]
    dsimp only
    rw [if_pos rfl]
  by_cases h25 : v = 25
  · obtain ⟨r, e1, e2⟩ := xy_hire h (xs (4 * j + 1)) (xs (4 * j + 2))
    refine ⟨σ, h, fun rec => ?_⟩
    rw [xp_jn, if_neg h0, if_neg h1, if_neg h2, if_neg h3, if_neg h4, if_neg h5, if_neg h6, if_neg h7, if_neg h8, if_neg h9, if_neg h10, if_neg h11, if_neg h12, if_neg h13, if_neg h14, if_neg h15, if_neg h16, if_neg h17, if_neg h18, if_neg h19, if_neg h20, if_neg h21, if_neg h22, if_neg h23, if_neg h24, if_pos h25]
    simp only [s1, s2]
    rw [e1, Option.bind_some, e2, Option.bind_some, if_pos rfl]
  by_cases h26 : v = 26
  · obtain ⟨r, σ1, σ2, e1, e2, e3⟩ := xy_bread h (xs (4 * j + 1))
    refine ⟨σ2, e3, fun rec => ?_⟩
    have e2' : xf_X11_bread σ1 (xs (4 * j + 1)) = some (r, σ2) := e2
    rw [xp_jn, if_neg h0, if_neg h1, if_neg h2, if_neg h3, if_neg h4, if_neg h5, if_neg h6, if_neg h7, if_neg h8, if_neg h9, if_neg h10, if_neg h11, if_neg h12, if_neg h13, if_neg h14, if_neg h15, if_neg h16, if_neg h17, if_neg h18, if_neg h19, if_neg h20, if_neg h21, if_neg h22, if_neg h23, if_neg h24, if_neg h25, if_pos h26]
    simp only [s1]
    rw [e1, Option.bind_some]
    dsimp only
    rw [e2', Option.bind_some]
    dsimp only
    rw [if_pos rfl]
  by_cases h27 : v = 27
  · obtain ⟨r, σ1, σ2, e1, e2, e3⟩ := xy_write h (xs (4 * j + 1)) (xs (4 * j + 2)) (xs (4 * j + 3))
    refine ⟨σ2, e3, fun rec => ?_⟩
    have e2' : xf_X11_write σ1 (xs (4 * j + 1)) (xs (4 * j + 2)) (xs (4 * j + 3)) = some (r, σ2) := e2
    rw [xp_jn, if_neg h0, if_neg h1, if_neg h2, if_neg h3, if_neg h4, if_neg h5, if_neg h6, if_neg h7, if_neg h8, if_neg h9, if_neg h10, if_neg h11, if_neg h12, if_neg h13, if_neg h14, if_neg h15, if_neg h16, if_neg h17, if_neg h18, if_neg h19, if_neg h20, if_neg h21, if_neg h22, if_neg h23, if_neg h24, if_neg h25, if_neg h26, if_pos h27]
    simp only [s1, s2, s3]
    rw [e1, Option.bind_some]
    dsimp only
    rw [e2', Option.bind_some]
    dsimp only
    rw [if_pos rfl]
  by_cases h28 : v = 28
  · obtain ⟨r, σ1, σ2, e1, e2, e3⟩ := xy_tear h 
    refine ⟨σ2, e3, fun rec => ?_⟩
    have e2' : xf_X11_tear σ1  = some (r, σ2) := e2
    rw [xp_jn, if_neg h0, if_neg h1, if_neg h2, if_neg h3, if_neg h4, if_neg h5, if_neg h6, if_neg h7, if_neg h8, if_neg h9, if_neg h10, if_neg h11, if_neg h12, if_neg h13, if_neg h14, if_neg h15, if_neg h16, if_neg h17, if_neg h18, if_neg h19, if_neg h20, if_neg h21, if_neg h22, if_neg h23, if_neg h24, if_neg h25, if_neg h26, if_neg h27, if_pos h28]
    rw [e1, Option.bind_some]
    dsimp only
    rw [e2', Option.bind_some]
    dsimp only
    rw [if_pos rfl]
  by_cases h29 : v = 29
  · obtain ⟨r, e1, e2⟩ := xy_judge h 
    refine ⟨σ, h, fun rec => ?_⟩
    rw [xp_jn, if_neg h0, if_neg h1, if_neg h2, if_neg h3, if_neg h4, if_neg h5, if_neg h6, if_neg h7, if_neg h8, if_neg h9, if_neg h10, if_neg h11, if_neg h12, if_neg h13, if_neg h14, if_neg h15, if_neg h16, if_neg h17, if_neg h18, if_neg h19, if_neg h20, if_neg h21, if_neg h22, if_neg h23, if_neg h24, if_neg h25, if_neg h26, if_neg h27, if_neg h28, if_pos h29]
    rw [e1, Option.bind_some, e2, Option.bind_some, if_pos rfl]
  by_cases h30 : v = 30
  · obtain ⟨r, σ1, σ2, e1, e2, e3⟩ := xy_seed h (xs (4 * j + 1))
    refine ⟨σ2, e3, fun rec => ?_⟩
    have e2' : xf_X11_seed σ1 (xs (4 * j + 1)) = some (r, σ2) := e2
    rw [xp_jn, if_neg h0, if_neg h1, if_neg h2, if_neg h3, if_neg h4, if_neg h5, if_neg h6, if_neg h7, if_neg h8, if_neg h9, if_neg h10, if_neg h11, if_neg h12, if_neg h13, if_neg h14, if_neg h15, if_neg h16, if_neg h17, if_neg h18, if_neg h19, if_neg h20, if_neg h21, if_neg h22, if_neg h23, if_neg h24, if_neg h25, if_neg h26, if_neg h27, if_neg h28, if_neg h29, if_pos h30]
    simp only [s1]
    rw [e1, Option.bind_some]
    dsimp only
    rw [e2', Option.bind_some]
    dsimp only
    rw [if_pos rfl]
  by_cases h31 : v = 31
  · obtain ⟨r, σ1, σ2, e1, e2, e3⟩ := xy_keep h (xs (4 * j + 1))
    refine ⟨σ2, e3, fun rec => ?_⟩
    have e2' : xf_X11_keep σ1 (xs (4 * j + 1)) = some (r, σ2) := e2
    rw [xp_jn, if_neg h0, if_neg h1, if_neg h2, if_neg h3, if_neg h4, if_neg h5, if_neg h6, if_neg h7, if_neg h8, if_neg h9, if_neg h10, if_neg h11, if_neg h12, if_neg h13, if_neg h14, if_neg h15, if_neg h16, if_neg h17, if_neg h18, if_neg h19, if_neg h20, if_neg h21, if_neg h22, if_neg h23, if_neg h24, if_neg h25, if_neg h26, if_neg h27, if_neg h28, if_neg h29, if_neg h30, if_pos h31]
    simp only [s1]
    rw [e1, Option.bind_some]
    dsimp only
    rw [e2', Option.bind_some]
    dsimp only
    rw [if_pos rfl]
  by_cases h32 : v = 32
  · obtain ⟨r, σ1, σ2, e1, e2, e3⟩ := xy_goBack h (xs (4 * j + 1))
    refine ⟨σ2, e3, fun rec => ?_⟩
    have e2' : xf_X11_goBack σ1 (xs (4 * j + 1)) = some (r, σ2) := e2
    rw [xp_jn, if_neg h0, if_neg h1, if_neg h2, if_neg h3, if_neg h4, if_neg h5, if_neg h6, if_neg h7, if_neg h8, if_neg h9, if_neg h10, if_neg h11, if_neg h12, if_neg h13, if_neg h14, if_neg h15, if_neg h16, if_neg h17, if_neg h18, if_neg h19, if_neg h20, if_neg h21, if_neg h22, if_neg h23, if_neg h24, if_neg h25, if_neg h26, if_neg h27, if_neg h28, if_neg h29, if_neg h30, if_neg h31, if_pos h32]
    simp only [s1]
    rw [e1, Option.bind_some]
    dsimp only
    rw [e2', Option.bind_some]
    dsimp only
    rw [if_pos rfl]
  refine ⟨σ, h, fun rec => ?_⟩
  rw [xp_jn, if_neg h0, if_neg h1, if_neg h2, if_neg h3, if_neg h4, if_neg h5, if_neg h6, if_neg h7, if_neg h8, if_neg h9, if_neg h10, if_neg h11, if_neg h12, if_neg h13, if_neg h14, if_neg h15, if_neg h16, if_neg h17, if_neg h18, if_neg h19, if_neg h20, if_neg h21, if_neg h22, if_neg h23, if_neg h24, if_neg h25, if_neg h26, if_neg h27, if_neg h28, if_neg h29, if_neg h30, if_neg h31, if_neg h32]
theorem xz_law {σ : xr_S} {L : Nat} {xs : Nat → Int32} (h : xi σ) (hL : L ≤ 256) : xf_L_law L xs σ = some 1 := by
  unfold xf_L_law
  refine xp_inv (Q := fun o => o = some 1) (fun j x => 4 * j ≤ L ∧ ∃ σ', x = (nI (4 * j), σ') ∧ xi σ') (L / 4) (fun j x hj hI => ?_) (fun x hI => ?_) 0 _ (Nat.zero_le _) ⟨Nat.zero_le _, σ, rfl, h⟩
  · obtain ⟨h1, σ', rfl, h2⟩ := hI
    right
    obtain ⟨σ2, h3, h4⟩ := xz_step (j := j) h2 hL (by omega)
    exact ⟨(nI (4 * (j + 1)), σ2), ⟨by omega, σ2, rfl, h3⟩, h4⟩
  · obtain ⟨h1, σ', rfl, h2⟩ := hI
    refine ⟨some 1, fun rec => ?_, rfl⟩
    have hcond : nI L - 4 < nI (4 * (L / 4)) := by
      rw [Int32.lt_iff_toInt_lt, show (4 : Int32) = nI 4 from rfl, pk_sub_toInt (by omega) (by omega), nI_toInt (by omega)]
      omega
    unfold xf_L_law_L18
    dsimp only
    rw [if_pos hcond]
theorem xz_start : ∃ ρ, xf_X11_begins xk_i11 = some ρ ∧ xi ρ := by
  obtain ⟨ρ, z1, z2, z3, z4, z5, z6, z7, z8, z9⟩ := xe_begins (σ := xk_i11)
  have q0 : ρ.1 0 = xk_i11.1 0 := z2 0 (by decide)
  have q1 : ρ.1 1 = xk_i11.1 1 := z2 1 (by decide)
  have q9 : ρ.1 9 = xk_i11.1 9 := z2 9 (by decide)
  have q15 : ρ.1 15 = xk_i11.1 15 := z2 15 (by decide)
  have q17 : ρ.1 17 = xk_i11.1 17 := z2 17 (by decide)
  have q18 : ρ.1 18 = xk_i11.1 18 := z2 18 (by decide)
  have q19 : ρ.1 19 = xk_i11.1 19 := z2 19 (by decide)
  have q39 : ρ.1 39 = xk_i11.1 39 := z2 39 (by decide)
  have q45 : ρ.1 45 = xk_i11.1 45 := z2 45 (by decide)
  have q49 : ρ.1 49 = xk_i11.1 49 := z2 49 (by decide)
  have q51 : ρ.1 51 = xk_i11.1 51 := z2 51 (by decide)
  refine ⟨ρ, z1, (0, 0, 0, 0, 0, fun _ => 0, fun _ => 0, fun _ => 0), (fun _ _ => 0, fun _ => none, fun _ => none, 0, 0, 0, 0, 0), xs_pi0.1, ⟨fun _ _ => Nat.zero_le _, fun _ _ _ => rfl, fun s hs => absurd hs (Nat.not_lt_zero s), fun l s h => (by cases h), fun l k s h => (by cases h), fun l d h => (by cases h), Nat.two_pow_pos _, Nat.two_pow_pos _, Nat.zero_le _, by decide⟩, ?_, ?_, ?_, ?_, ⟨0, fun _ => 0, Nat.zero_le _, by rw [q1]; rfl, by rw [q49]; rfl, fun k hk => absurd hk (Nat.not_lt_zero k)⟩, ?_, ⟨0, fun _ => 0, Nat.zero_le _, by rw [q39]; rfl, by rw [q49]; rfl, fun k hk => absurd hk (Nat.not_lt_zero k)⟩, ⟨0, fun _ => 0, fun _ => 0, fun _ => 0, Nat.zero_le _, by rw [q45]; rfl, by rw [q49]; rfl, fun k hk => absurd hk (Nat.not_lt_zero k)⟩, 0, by decide, by rw [q0]; rfl, fun i hi => ⟨?_, fun hb => absurd hb (by simp)⟩⟩
  · exact ⟨by rw [q9]; rfl, by rw [q9]; rfl, by rw [q9]; rfl, by rw [q9]; rfl, by rw [q9]; rfl, fun l hl => absurd hl (Nat.not_lt_zero l)⟩
  · exact ⟨by rw [q49]; rfl, by rw [q49]; rfl, by rw [q49]; rfl, by rw [q49]; rfl, by rw [q49]; rfl, fun l hl => absurd hl (Nat.not_lt_zero l)⟩
  · exact ⟨fun i d _ _ => by rw [q17]; rfl, fun l _ => by rw [q18]; rfl, fun l _ => by rw [q19]; rfl, by rw [q15]; rfl, by rw [q15]; rfl, by rw [q15]; rfl, by rw [q15]; rfl, by rw [q15]; rfl⟩
  · refine xi_M0' ⟨fun i d hi hd => by rw [z3 _ (by omega)]; rfl, fun l hl => by rw [(z4 l hl).1]; rfl, fun l hl => by rw [(z4 l hl).2.1]; rfl, fun l hl => ?_, by rw [z5]; rfl, by rw [z6]; rfl, by rw [z7]; rfl, by rw [z8]; rfl⟩
    rw [(z4 l hl).2.2]
    show (0 : Int32) = bI (Nat.testBit 0 l)
    rw [Nat.zero_testBit]; rfl
  · show ρ.1 0 11 = ρ.1 49 16
    rw [q0, q49]; rfl
  · rw [q51, Nat.zero_testBit]; rfl
theorem xk_pure_holds : xk_pure := fun L xs hL => by
  obtain ⟨ρ, h1, h2⟩ := xz_start
  exact ⟨ρ, h1, xz_law h2 hL⟩
