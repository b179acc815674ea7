/-! crumbs: the call -/
theorem xs_E_iff {t : xa_T} {a : xa_A} {l s : Nat} (hl : l < tL t) (hq : (qT a l).isNone = false) : 0 < xs_wz t a (some l) (some s) (tL t) 0 ↔ ∃ g, g ∈ xs_lv (xs_al t a) (xs_fr a) (tS t) (tL t) (tL t) 0 (fun _ => 0) ∧ g l = s := by
  unfold xs_wz
  rw [← xs_lv_len (tL t) 0 (fun _ => 0)]
  constructor
  · intro h
    obtain ⟨g, hg⟩ := List.exists_mem_of_length_pos h
    obtain ⟨h1, h2⟩ := (xs_lv_held hl (show xs_fr a l = false from hq) (tL t) 0 (fun _ => 0) (Nat.le_refl _)).mp hg
    exact ⟨g, h1, h2 (by omega)⟩
  · rintro ⟨g, h1, h2⟩
    exact List.length_pos_of_mem ((xs_lv_held (s0 := s) hl (show xs_fr a l = false from hq) (tL t) 0 (fun _ => 0) (Nat.le_refl _)).mpr ⟨h1, fun _ => h2⟩)
theorem xs_sure_eq {t : xa_T} {a : xa_A} {l : Nat} {r : Option Nat} (hT : xi_T t) (hl : l < tL t) (hq : (qT a l).isNone = false) (hU : xs_U (tS t) (fun s => 0 < xs_wz t a (some l) (some s) (tL t) 0) r) : (if ((xs_lv (xs_al t a) (xs_fr a) (tS t) (tL t) (tL t) 0 (fun _ => 0)).foldl (xs_fs (xs_fr a)) (0, fun _ => -1)).1 = 0 then (-1 : Int32) else ((xs_lv (xs_al t a) (xs_fr a) (tS t) (tL t) (tL t) 0 (fun _ => 0)).foldl (xs_fs (xs_fr a)) (0, fun _ => -1)).2 l) = oI r := by
  have hn3 := hT.2.2.1
  have hE : ∀ s, 0 < xs_wz t a (some l) (some s) (tL t) 0 ↔ ∃ g, g ∈ xs_lv (xs_al t a) (xs_fr a) (tS t) (tL t) (tL t) 0 (fun _ => 0) ∧ g l = s := fun s => xs_E_iff hl hq
  have hlt : ∀ g, g ∈ xs_lv (xs_al t a) (xs_fr a) (tS t) (tL t) (tL t) 0 (fun _ => 0) → g l < tS t := fun g hg => xs_lv_lt _ _ _ hg (Nat.le_refl _) l (by omega) hl hq
  generalize xs_lv (xs_al t a) (xs_fr a) (tS t) (tL t) (tL t) 0 (fun _ => 0) = ls at hE hlt
  cases ls with
  | nil =>
    have hr : r = none := by
      cases r with
      | none => rfl
      | some s =>
        obtain ⟨-, h2, -⟩ := (hU s).mp rfl
        obtain ⟨g, hg, -⟩ := (hE s).mp h2
        cases hg
    rw [hr]
    rfl
  | cons f ls =>
    rw [xs_fs_len, List.length_cons, if_neg (by show ¬ (0 + (ls.length + 1) = 0); omega), List.foldl_cons]
    have e0 : xs_fs (xs_fr a) (0, fun _ => -1) f = (1, fun k => xs_lay (xs_fr a) f k) := by
      unfold xs_fs
      simp
    rw [e0, xs_fs_su (show xs_fr a l = false from hq) _ _ _ (by omega)]
    have hlay : xs_lay (xs_fr a) f l = nI (f l) := by unfold xs_lay; rw [show xs_fr a l = false from hq]; rfl
    rw [hlay]
    have hf0 := hlt f List.mem_cons_self
    by_cases hall : ∀ g, g ∈ ls → nI (g l) = nI (f l)
    · rw [if_pos hall]
      have hr : r = some (f l) := (hU (f l)).mpr ⟨hf0, (hE (f l)).mpr ⟨f, List.mem_cons_self, rfl⟩, fun i hi hEi => by
        obtain ⟨g, hg, hgi⟩ := (hE i).mp hEi
        rcases List.mem_cons.mp hg with h | h
        · rw [← hgi, h]
        · have hg0 := hlt g hg
          have := (nI_eq (by omega) (by omega)).mp (hall g h)
          omega⟩
      rw [hr]; rfl
    · rw [if_neg hall]
      have hr : r = none := by
        cases hrr : r with
        | none => rfl
        | some s =>
          exfalso
          apply hall
          intro g hg
          obtain ⟨h1, h2, h3⟩ := (hU s).mp hrr
          have a1 := h3 (f l) hf0 ((hE (f l)).mpr ⟨f, List.mem_cons_self, rfl⟩)
          have a2 := h3 (g l) (hlt g (List.mem_cons_of_mem _ hg)) ((hE (g l)).mpr ⟨g, List.mem_cons_of_mem _ hg, rfl⟩)
          rw [a1, a2]
      rw [hr]; rfl
theorem xy_crumbs {σ : xr_S} (h : xi σ) (x : Int32) : xi_ok σ (xf_X10_crumbs σ x) (fun τ => xf_X11_crumbs τ x) := by
  obtain ⟨t, a, hI⟩ := h
  obtain ⟨hT, hA, hc, hm, hC, hM, -⟩ := id hI
  obtain ⟨n1, n2, n3, n4, n5, n6, n7⟩ := id hT
  have hbo := xi_bounds hT hA
  have hlen := xs_lv_len (al := xs_al t a) (fr := xs_fr a) (S := tS t) (L := tL t) (tL t) 0 (fun _ => 0)
  have hle := xs_wy_le (al := xs_al t a) (fr := xs_fr a) (L := tL t) n3 (tL t) 0
  have hp : 6 ^ tL t ≤ 6 ^ 7 := Nat.pow_le_pow_right (by decide) n4
  have hfl := xs_fs_len (fr := xs_fr a) (xs_lv (xs_al t a) (xs_fr a) (tS t) (tL t) (tL t) 0 (fun _ => 0)) (0, fun _ => -1)
  have hF : ((xs_lv (xs_al t a) (xs_fr a) (tS t) (tL t) (tL t) 0 (fun _ => 0)).foldl (xs_fs (xs_fr a)) (0, fun _ => -1)).1 = xs_wz t a none none (tL t) 0 := by
    rw [hfl, hlen, Nat.zero_add]
    unfold xs_wz
    rw [xs_ah_none]
  have hFb : ((xs_lv (xs_al t a) (xs_fr a) (tS t) (tL t) (tL t) 0 (fun _ => 0)).foldl (xs_fs (xs_fr a)) (0, fun _ => -1)).1 < 2 ^ 31 := by
    rw [hfl, hlen]
    dsimp only
    omega
  have fin : ∀ (σ1 : xr_S), (∀ c, c ≠ 42 → σ1.1 c = σ.1 c) → ∃ σ2, xf_X11_findCrumbs σ1 = some (nI ((xs_lv (xs_al t a) (xs_fr a) (tS t) (tL t) (tL t) 0 (fun _ => 0)).foldl (xs_fs (xs_fr a)) (0, fun _ => -1)).1, σ2) ∧ (∀ i, i < tL t → σ2.1 63 i = ((xs_lv (xs_al t a) (xs_fr a) (tS t) (tL t) (tL t) 0 (fun _ => 0)).foldl (xs_fs (xs_fr a)) (0, fun _ => -1)).2 i) ∧ xi_M σ2 0 a ∧ xi σ2 := by
    intro σ1 h1
    have hm1 : xi_Tm σ1 t := xi_Tm_fr4 hm (fun c h => h1 c (by omega))
    have hM1 : xi_M σ1 0 a := xi_M_fr hM (h1 50 (by decide))
    obtain ⟨σ2, r1, r2, r3⟩ := xe_findCrumbs hT hA hm1 hM1
    exact ⟨σ2, r1, r2, xi_M_fr hM1 (r3 50 (by decide) (by decide)), xi_scr hI (fun c _ _ => h1 c (by omega)) (fun c _ _ _ _ g5 g6 => r3 c g5 g6) (fun k _ => by rw [r3 50 (by decide) (by decide)])⟩
  unfold xi_ok xf_X10_crumbs xf_X11_crumbs
  simp only [xp_jn]
  by_cases hx : x = -1
  · obtain ⟨σ1, p1, p2⟩ := xe_ways (σ := σ) (hl := none) (ho := none) hT hA hc hC (fun n hn => by cases hn) (fun n hn => by cases hn)
    obtain ⟨σ2, r1, r2, r3, r4⟩ := fin σ1 p2
    have p1' : xf_X3_ways σ (-1) (-1) = some (nI (xs_wz t a none none (tL t) 0), σ1) := p1
    refine ⟨nI (xs_wz t a none none (tL t) 0), σ1, σ2, ?_, ?_, r4⟩
    · rw [if_pos hx, if_pos hx, p1']; rfl
    · rw [if_pos hx, r1, Option.bind_some, if_pos hx, hF]
  · cases hl : xs_inr x (tL t) with
    | false =>
      refine ⟨-1000000001, σ, σ, ?_, ?_, ⟨t, a, hI⟩⟩
      · rw [if_neg hx, xe_hasLoaf hc.2.2.2.1, hl]; rfl
      · rw [if_neg hx, xe_isLoaf hm.2.2.2.1 (by omega), hl]; rfl
    | true =>
      obtain ⟨l, hl1, rfl⟩ := xs_inr_t (by omega) hl
      have headM : ∀ (σ1 : xr_S), (∀ c, c ≠ 42 → σ1.1 c = σ.1 c) → xf_X11_isLoaf σ1 (nI l) = some (nI 1) := fun σ1 h1 => by
        have := xe_isLoaf (σ := σ1) (a := nI l) (xi_Tm_fr4 hm (fun c h => h1 c (by omega))).2.2.2.1 (by omega)
        rw [this, hl]; rfl
      cases hq : (qT a l).isNone with
      | true =>
        obtain ⟨σ2, r1, r2, r3, r4⟩ := fin σ (fun _ _ => rfl)
        have e1 := xe_isFresh (hC.2.2.1 l (by omega)) (hbo.2.1 l) (show l < 7 by omega)
        have e2 := xe_isFreshM ((xi_M0 r3).2.2.1 l (by omega)) (hbo.2.1 l) (show l < 7 by omega)
        refine ⟨-1, σ, σ2, ?_, ?_, r4⟩
        · rw [if_neg hx, xe_hasLoaf hc.2.2.2.1, hl, bI_t, Option.bind_some, if_neg (by decide), if_neg hx]
          unfold xf_X3_sureBed
          rw [e1, hq]; rfl
        · rw [if_neg hx, headM σ (fun _ _ => rfl), Option.bind_some, if_neg (by decide), r1, Option.bind_some, if_neg hx]
          dsimp only
          rw [e2, hq]
          by_cases hz : nI ((xs_lv (xs_al t a) (xs_fr a) (tS t) (tL t) (tL t) 0 (fun _ => 0)).foldl (xs_fs (xs_fr a)) (0, fun _ => -1)).1 = 0
          · rw [if_pos hz]
          · rw [if_neg hz]; rfl
      | false =>
        obtain ⟨r, σ1, p1, p2, p3⟩ := xe_sureBed hT hA hc hC hl1 hq
        obtain ⟨σ2, r1, r2, r3, r4⟩ := fin σ1 p3
        have e2 := xe_isFreshM ((xi_M0 r3).2.2.1 l (by omega)) (hbo.2.1 l) (show l < 7 by omega)
        have hs := xs_sure_eq hT hl1 hq p2
        refine ⟨oI r, σ1, σ2, ?_, ?_, r4⟩
        · rw [if_neg hx, xe_hasLoaf hc.2.2.2.1, hl, bI_t, Option.bind_some, if_neg (by decide), if_neg hx, p1]; rfl
        · rw [if_neg hx, headM σ1 p3, Option.bind_some, if_neg (by decide), r1, Option.bind_some, if_neg hx]
          dsimp only
          rw [e2, hq]
          by_cases hz : ((xs_lv (xs_al t a) (xs_fr a) (tS t) (tL t) (tL t) 0 (fun _ => 0)).foldl (xs_fs (xs_fr a)) (0, fun _ => -1)).1 = 0
          · rw [if_pos (by rw [hz]; rfl)]
            rw [if_pos hz] at hs
            rw [hs]
          · rw [if_neg (by rw [xl_0, xp_eq hFb (by omega)]; exact hz), Option.bind_some, if_pos (show bI false = 0 from rfl), xp_ld (by omega) (by omega), r2 l hl1]
            rw [if_neg hz] at hs
            rw [hs]
