/-! the state with one thing changed -/
def sW (a : xa_A) (s d v : Nat) : xa_A := (fun i j => if i = s ∧ j = d then v else qW a i j, qP a, qT a, qS a, qA a, qN a, qE a, qR a)
def sP (a : xa_A) (l : Nat) (o : Option Nat) : xa_A := (qW a, fun k => if k = l then o else qP a k, qT a, qS a, qA a, qN a, qE a, qR a)
def sT (a : xa_A) (l : Nat) (o : Option Nat) : xa_A := (qW a, qP a, fun k => if k = l then o else qT a k, qS a, qA a, qN a, qE a, qR a)
def sS (a : xa_A) (v : Nat) : xa_A := (qW a, qP a, qT a, v, qA a, qN a, qE a, qR a)
def sA (a : xa_A) (v : Nat) : xa_A := (qW a, qP a, qT a, qS a, v, qN a, qE a, qR a)
def sN (a : xa_A) (v : Int32) : xa_A := (qW a, qP a, qT a, qS a, qA a, v, qE a, qR a)
def sE (a : xa_A) (v : Nat) : xa_A := (qW a, qP a, qT a, qS a, qA a, qN a, v, qR a)
def sR (a : xa_A) (v : Nat) : xa_A := (qW a, qP a, qT a, qS a, qA a, qN a, qE a, v)
theorem C_W {σ : xr_S} {a : xa_A} {s d v : Nat} (hs : s < 6) (hd : d < 5) (h : xi_C σ 15 a) : xi_C (xr_up σ 17 (s * 5 + d) (nI v)) 15 (sW a s d v) := by
  obtain ⟨p1, p2, p3, p4, p5, p6, p7, p8⟩ := h
  refine ⟨fun i j hi hj => ?_, fun k hk => ?_, fun k hk => ?_, ?_, ?_, ?_, ?_, ?_⟩
  · show (xr_up σ 17 (s * 5 + d) (nI v)).1 17 (i * 5 + j) = _
    rw [xp_same]
    by_cases hc : i = s ∧ j = d
    · obtain ⟨rfl, rfl⟩ := hc; rw [xp_us]; simp [qW, sW]
    · rw [xp_un (by omega)]; rw [show qW (sW a s d v) i j = qW a i j by simp [qW, sW, hc]]; exact p1 i j hi hj
  · rw [xp_other (by decide)]; exact p2 k hk
  · rw [xp_other (by decide)]; exact p3 k hk
  · rw [xp_other (by decide)]; exact p4
  · rw [xp_other (by decide)]; exact p5
  · rw [xp_other (by decide)]; exact p6
  · rw [xp_other (by decide)]; exact p7
  · rw [xp_other (by decide)]; exact p8
theorem C_P {σ : xr_S} {a : xa_A} {l : Nat} {o : Option Nat} (h : xi_C σ 15 a) : xi_C (xr_up σ 18 l (oI o)) 15 (sP a l o) := by
  obtain ⟨p1, p2, p3, p4, p5, p6, p7, p8⟩ := h
  refine ⟨fun i j hi hj => ?_, fun k hk => ?_, fun k hk => ?_, ?_, ?_, ?_, ?_, ?_⟩
  · rw [xp_other (by decide)]; exact p1 i j hi hj
  · show (xr_up σ 18 l (oI o)).1 18 k = _
    rw [xp_same]
    by_cases hc : k = l
    · subst hc; rw [xp_us]; simp [qP, sP]
    · rw [xp_un hc]; rw [show qP (sP a l o) k = qP a k by simp [qP, sP, hc]]; exact p2 k hk
  · rw [xp_other (by decide)]; exact p3 k hk
  · rw [xp_other (by decide)]; exact p4
  · rw [xp_other (by decide)]; exact p5
  · rw [xp_other (by decide)]; exact p6
  · rw [xp_other (by decide)]; exact p7
  · rw [xp_other (by decide)]; exact p8
theorem C_T {σ : xr_S} {a : xa_A} {l : Nat} {o : Option Nat} (h : xi_C σ 15 a) : xi_C (xr_up σ 19 l (oI o)) 15 (sT a l o) := by
  obtain ⟨p1, p2, p3, p4, p5, p6, p7, p8⟩ := h
  refine ⟨fun i j hi hj => ?_, fun k hk => ?_, fun k hk => ?_, ?_, ?_, ?_, ?_, ?_⟩
  · rw [xp_other (by decide)]; exact p1 i j hi hj
  · rw [xp_other (by decide)]; exact p2 k hk
  · show (xr_up σ 19 l (oI o)).1 19 k = _
    rw [xp_same]
    by_cases hc : k = l
    · subst hc; rw [xp_us]; simp [qT, sT]
    · rw [xp_un hc]; rw [show qT (sT a l o) k = qT a k by simp [qT, sT, hc]]; exact p3 k hk
  · rw [xp_other (by decide)]; exact p4
  · rw [xp_other (by decide)]; exact p5
  · rw [xp_other (by decide)]; exact p6
  · rw [xp_other (by decide)]; exact p7
  · rw [xp_other (by decide)]; exact p8
theorem C_S {σ : xr_S} {a : xa_A} {v : Nat} (h : xi_C σ 15 a) : xi_C (xr_up σ 15 3 (nI v)) 15 (sS a v) := by
  obtain ⟨p1, p2, p3, p4, p5, p6, p7, p8⟩ := h
  refine ⟨fun i j hi hj => ?_, fun k hk => ?_, fun k hk => ?_, ?_, ?_, ?_, ?_, ?_⟩
  · rw [xp_other (by decide)]; exact p1 i j hi hj
  · rw [xp_other (by decide)]; exact p2 k hk
  · rw [xp_other (by decide)]; exact p3 k hk
  · rw [xp_same, xp_us]; rfl
  · rw [xp_same, xp_un (by decide)]; exact p5
  · rw [xp_same, xp_un (by decide)]; exact p6
  · rw [xp_same, xp_un (by decide)]; exact p7
  · rw [xp_same, xp_un (by decide)]; exact p8
theorem C_A {σ : xr_S} {a : xa_A} {v : Nat} (h : xi_C σ 15 a) : xi_C (xr_up σ 15 4 (nI v)) 15 (sA a v) := by
  obtain ⟨p1, p2, p3, p4, p5, p6, p7, p8⟩ := h
  refine ⟨fun i j hi hj => ?_, fun k hk => ?_, fun k hk => ?_, ?_, ?_, ?_, ?_, ?_⟩
  · rw [xp_other (by decide)]; exact p1 i j hi hj
  · rw [xp_other (by decide)]; exact p2 k hk
  · rw [xp_other (by decide)]; exact p3 k hk
  · rw [xp_same, xp_un (by decide)]; exact p4
  · rw [xp_same, xp_us]; rfl
  · rw [xp_same, xp_un (by decide)]; exact p6
  · rw [xp_same, xp_un (by decide)]; exact p7
  · rw [xp_same, xp_un (by decide)]; exact p8
theorem C_E {σ : xr_S} {a : xa_A} {v : Nat} (h : xi_C σ 15 a) : xi_C (xr_up σ 15 6 (nI v)) 15 (sE a v) := by
  obtain ⟨p1, p2, p3, p4, p5, p6, p7, p8⟩ := h
  refine ⟨fun i j hi hj => ?_, fun k hk => ?_, fun k hk => ?_, ?_, ?_, ?_, ?_, ?_⟩
  · rw [xp_other (by decide)]; exact p1 i j hi hj
  · rw [xp_other (by decide)]; exact p2 k hk
  · rw [xp_other (by decide)]; exact p3 k hk
  · rw [xp_same, xp_un (by decide)]; exact p4
  · rw [xp_same, xp_un (by decide)]; exact p5
  · rw [xp_same, xp_un (by decide)]; exact p6
  · rw [xp_same, xp_us]; rfl
  · rw [xp_same, xp_un (by decide)]; exact p8
theorem C_R {σ : xr_S} {a : xa_A} {v : Nat} (h : xi_C σ 15 a) : xi_C (xr_up σ 15 7 (nI v)) 15 (sR a v) := by
  obtain ⟨p1, p2, p3, p4, p5, p6, p7, p8⟩ := h
  refine ⟨fun i j hi hj => ?_, fun k hk => ?_, fun k hk => ?_, ?_, ?_, ?_, ?_, ?_⟩
  · rw [xp_other (by decide)]; exact p1 i j hi hj
  · rw [xp_other (by decide)]; exact p2 k hk
  · rw [xp_other (by decide)]; exact p3 k hk
  · rw [xp_same, xp_un (by decide)]; exact p4
  · rw [xp_same, xp_un (by decide)]; exact p5
  · rw [xp_same, xp_un (by decide)]; exact p6
  · rw [xp_same, xp_un (by decide)]; exact p7
  · rw [xp_same, xp_us]; rfl
theorem C_N {σ : xr_S} {a : xa_A} {v : Int32} (h : xi_C σ 15 a) : xi_C (xr_up σ 15 5 v) 15 (sN a v) := by
  obtain ⟨p1, p2, p3, p4, p5, p6, p7, p8⟩ := h
  refine ⟨fun i j hi hj => ?_, fun k hk => ?_, fun k hk => ?_, ?_, ?_, ?_, ?_, ?_⟩
  · rw [xp_other (by decide)]; exact p1 i j hi hj
  · rw [xp_other (by decide)]; exact p2 k hk
  · rw [xp_other (by decide)]; exact p3 k hk
  · rw [xp_same, xp_un (by decide)]; exact p4
  · rw [xp_same, xp_un (by decide)]; exact p5
  · rw [xp_same, xp_us]; rfl
  · rw [xp_same, xp_un (by decide)]; exact p7
  · rw [xp_same, xp_un (by decide)]; exact p8
theorem M_W {σ : xr_S} {a : xa_A} {s d v : Nat} (hs : s < 6) (hd : d < 5) (h : xi_M σ 0 a) : xi_M (xr_up σ 50 (5 * s + d) (nI v)) 0 (sW a s d v) := by
  obtain ⟨p1, p2, p3, p4, p5, p6, p7, p8⟩ := xi_M0 h
  refine xi_M0' ⟨fun i j hi hj => ?_, fun k hk => ?_, fun k hk => ?_, fun k hk => ?_, ?_, ?_, ?_, ?_⟩
  · rw [xp_same]
    by_cases hc : i = s ∧ j = d
    · obtain ⟨rfl, rfl⟩ := hc; rw [xp_us]; simp [qW, sW]
    · rw [xp_un (by omega)]; rw [show qW (sW a s d v) i j = qW a i j by simp [qW, sW, hc]]; exact p1 i j hi hj
  · rw [xp_same, xp_un (by omega)]; exact p2 k hk
  · rw [xp_same, xp_un (by omega)]; exact p3 k hk
  · rw [xp_same, xp_un (by omega)]; exact p4 k hk
  · rw [xp_same, xp_un (by omega)]; exact p5
  · rw [xp_same, xp_un (by omega)]; exact p6
  · rw [xp_same, xp_un (by omega)]; exact p7
  · rw [xp_same, xp_un (by omega)]; exact p8
theorem M_P {σ : xr_S} {a : xa_A} {l : Nat} {o : Option Nat} (hl : l < 7) (h : xi_M σ 0 a) : xi_M (xr_up σ 50 (30 + l) (oI o)) 0 (sP a l o) := by
  obtain ⟨p1, p2, p3, p4, p5, p6, p7, p8⟩ := xi_M0 h
  refine xi_M0' ⟨fun i j hi hj => ?_, fun k hk => ?_, fun k hk => ?_, fun k hk => ?_, ?_, ?_, ?_, ?_⟩
  · rw [xp_same, xp_un (by omega)]; exact p1 i j hi hj
  · rw [xp_same]
    by_cases hc : k = l
    · subst hc; rw [xp_us]; simp [qP, sP]
    · rw [xp_un (by omega)]; rw [show qP (sP a l o) k = qP a k by simp [qP, sP, hc]]; exact p2 k hk
  · rw [xp_same, xp_un (by omega)]; exact p3 k hk
  · rw [xp_same, xp_un (by omega)]; exact p4 k hk
  · rw [xp_same, xp_un (by omega)]; exact p5
  · rw [xp_same, xp_un (by omega)]; exact p6
  · rw [xp_same, xp_un (by omega)]; exact p7
  · rw [xp_same, xp_un (by omega)]; exact p8
theorem M_T {σ : xr_S} {a : xa_A} {l : Nat} {o : Option Nat} (hl : l < 7) (h : xi_M σ 0 a) : xi_M (xr_up σ 50 (37 + l) (oI o)) 0 (sT a l o) := by
  obtain ⟨p1, p2, p3, p4, p5, p6, p7, p8⟩ := xi_M0 h
  refine xi_M0' ⟨fun i j hi hj => ?_, fun k hk => ?_, fun k hk => ?_, fun k hk => ?_, ?_, ?_, ?_, ?_⟩
  · rw [xp_same, xp_un (by omega)]; exact p1 i j hi hj
  · rw [xp_same, xp_un (by omega)]; exact p2 k hk
  · rw [xp_same]
    by_cases hc : k = l
    · subst hc; rw [xp_us]; simp [qT, sT]
    · rw [xp_un (by omega)]; rw [show qT (sT a l o) k = qT a k by simp [qT, sT, hc]]; exact p3 k hk
  · rw [xp_same, xp_un (by omega)]; exact p4 k hk
  · rw [xp_same, xp_un (by omega)]; exact p5
  · rw [xp_same, xp_un (by omega)]; exact p6
  · rw [xp_same, xp_un (by omega)]; exact p7
  · rw [xp_same, xp_un (by omega)]; exact p8
theorem M_S {σ : xr_S} {a : xa_A} {l v : Nat} {b : Bool} (hl : l < 7) (hv : ∀ k, k < 7 → v.testBit k = if k = l then b else (qS a).testBit k) (h : xi_M σ 0 a) : xi_M (xr_up σ 50 (44 + l) (bI b)) 0 (sS a v) := by
  obtain ⟨p1, p2, p3, p4, p5, p6, p7, p8⟩ := xi_M0 h
  refine xi_M0' ⟨fun i j hi hj => ?_, fun k hk => ?_, fun k hk => ?_, fun k hk => ?_, ?_, ?_, ?_, ?_⟩
  · rw [xp_same, xp_un (by omega)]; exact p1 i j hi hj
  · rw [xp_same, xp_un (by omega)]; exact p2 k hk
  · rw [xp_same, xp_un (by omega)]; exact p3 k hk
  · rw [xp_same]
    by_cases hc : k = l
    · subst hc; rw [xp_us]; show bI b = bI (v.testBit k); rw [hv k hk, if_pos rfl]
    · rw [xp_un (by omega)]; show σ.1 50 (44 + k) = bI (v.testBit k); rw [hv k hk, if_neg hc]; exact p4 k hk
  · rw [xp_same, xp_un (by omega)]; exact p5
  · rw [xp_same, xp_un (by omega)]; exact p6
  · rw [xp_same, xp_un (by omega)]; exact p7
  · rw [xp_same, xp_un (by omega)]; exact p8
theorem M_A {σ : xr_S} {a : xa_A} {v : Nat} (h : xi_M σ 0 a) : xi_M (xr_up σ 50 51 (nI v)) 0 (sA a v) := by
  obtain ⟨p1, p2, p3, p4, p5, p6, p7, p8⟩ := xi_M0 h
  refine xi_M0' ⟨fun i j hi hj => ?_, fun k hk => ?_, fun k hk => ?_, fun k hk => ?_, ?_, ?_, ?_, ?_⟩
  · rw [xp_same, xp_un (by omega)]; exact p1 i j hi hj
  · rw [xp_same, xp_un (by omega)]; exact p2 k hk
  · rw [xp_same, xp_un (by omega)]; exact p3 k hk
  · rw [xp_same, xp_un (by omega)]; exact p4 k hk
  · rw [xp_same, xp_us]; rfl
  · rw [xp_same, xp_un (by omega)]; exact p6
  · rw [xp_same, xp_un (by omega)]; exact p7
  · rw [xp_same, xp_un (by omega)]; exact p8
theorem M_N {σ : xr_S} {a : xa_A} {v : Int32} (h : xi_M σ 0 a) : xi_M (xr_up σ 50 52 v) 0 (sN a v) := by
  obtain ⟨p1, p2, p3, p4, p5, p6, p7, p8⟩ := xi_M0 h
  refine xi_M0' ⟨fun i j hi hj => ?_, fun k hk => ?_, fun k hk => ?_, fun k hk => ?_, ?_, ?_, ?_, ?_⟩
  · rw [xp_same, xp_un (by omega)]; exact p1 i j hi hj
  · rw [xp_same, xp_un (by omega)]; exact p2 k hk
  · rw [xp_same, xp_un (by omega)]; exact p3 k hk
  · rw [xp_same, xp_un (by omega)]; exact p4 k hk
  · rw [xp_same, xp_un (by omega)]; exact p5
  · rw [xp_same, xp_us]; rfl
  · rw [xp_same, xp_un (by omega)]; exact p7
  · rw [xp_same, xp_un (by omega)]; exact p8
theorem M_E {σ : xr_S} {a : xa_A} {v : Nat} (h : xi_M σ 0 a) : xi_M (xr_up σ 50 53 (nI v)) 0 (sE a v) := by
  obtain ⟨p1, p2, p3, p4, p5, p6, p7, p8⟩ := xi_M0 h
  refine xi_M0' ⟨fun i j hi hj => ?_, fun k hk => ?_, fun k hk => ?_, fun k hk => ?_, ?_, ?_, ?_, ?_⟩
  · rw [xp_same, xp_un (by omega)]; exact p1 i j hi hj
  · rw [xp_same, xp_un (by omega)]; exact p2 k hk
  · rw [xp_same, xp_un (by omega)]; exact p3 k hk
  · rw [xp_same, xp_un (by omega)]; exact p4 k hk
  · rw [xp_same, xp_un (by omega)]; exact p5
  · rw [xp_same, xp_un (by omega)]; exact p6
  · rw [xp_same, xp_us]; rfl
  · rw [xp_same, xp_un (by omega)]; exact p8
theorem M_R {σ : xr_S} {a : xa_A} {v : Nat} (h : xi_M σ 0 a) : xi_M (xr_up σ 50 54 (nI v)) 0 (sR a v) := by
  obtain ⟨p1, p2, p3, p4, p5, p6, p7, p8⟩ := xi_M0 h
  refine xi_M0' ⟨fun i j hi hj => ?_, fun k hk => ?_, fun k hk => ?_, fun k hk => ?_, ?_, ?_, ?_, ?_⟩
  · rw [xp_same, xp_un (by omega)]; exact p1 i j hi hj
  · rw [xp_same, xp_un (by omega)]; exact p2 k hk
  · rw [xp_same, xp_un (by omega)]; exact p3 k hk
  · rw [xp_same, xp_un (by omega)]; exact p4 k hk
  · rw [xp_same, xp_un (by omega)]; exact p5
  · rw [xp_same, xp_un (by omega)]; exact p6
  · rw [xp_same, xp_un (by omega)]; exact p7
  · rw [xp_same, xp_us]; rfl
theorem xi_C_up {σ : xr_S} {a : xa_A} {c k : Nat} {v : Int32} (h : xi_C σ 15 a) (h1 : c ≠ 15 ∧ c ≠ 17 ∧ c ≠ 18 ∧ c ≠ 19) : xi_C (xr_up σ c k v) 15 a := by
  have e : ∀ i, i = 15 ∨ i = 17 ∨ i = 18 ∨ i = 19 → (xr_up σ c k v).1 i = σ.1 i := fun i hi => xp_other (by omega)
  simpa only [xi_C, e 15 (by decide), e (15 + 2) (by decide), e (15 + 3) (by decide), e (15 + 4) (by decide)] using h
theorem A_S {t : xa_T} {a : xa_A} {v : Nat} (h : xi_A t a) (hv : v < 2 ^ tL t) : xi_A t (sS a v) := by
  obtain ⟨a1, a2, a3, a4, a5, a6, a7, a8, a9, a10⟩ := h
  exact ⟨a1, a2, a3, a4, a5, a6, hv, a8, a9, a10⟩
theorem A_A {t : xa_T} {a : xa_A} {v : Nat} (h : xi_A t a) (hv : v < 2 ^ tS t) : xi_A t (sA a v) := by
  obtain ⟨a1, a2, a3, a4, a5, a6, a7, a8, a9, a10⟩ := h
  exact ⟨a1, a2, a3, a4, a5, a6, a7, hv, a9, a10⟩
theorem A_N {t : xa_T} {a : xa_A} {v : Int32} (h : xi_A t a) : xi_A t (sN a v) := by
  obtain ⟨a1, a2, a3, a4, a5, a6, a7, a8, a9, a10⟩ := h
  exact ⟨a1, a2, a3, a4, a5, a6, a7, a8, a9, a10⟩
theorem A_E {t : xa_T} {a : xa_A} {v : Nat} (h : xi_A t a) (hv : v ≤ 999999) : xi_A t (sE a v) := by
  obtain ⟨a1, a2, a3, a4, a5, a6, a7, a8, a9, a10⟩ := h
  exact ⟨a1, a2, a3, a4, a5, a6, a7, a8, hv, a10⟩
theorem A_R {t : xa_T} {a : xa_A} {v : Nat} (h : xi_A t a) (hv : v < 2 ^ 31) : xi_A t (sR a v) := by
  obtain ⟨a1, a2, a3, a4, a5, a6, a7, a8, a9, a10⟩ := h
  exact ⟨a1, a2, a3, a4, a5, a6, a7, a8, a9, hv⟩
theorem A_T {t : xa_T} {a : xa_A} {l : Nat} {o : Option Nat} (h : xi_A t a) (ho : ∀ d, o = some d → l < tL t ∧ d < tN t) : xi_A t (sT a l o) := by
  obtain ⟨a1, a2, a3, a4, a5, a6, a7, a8, a9, a10⟩ := h
  refine ⟨a1, a2, a3, a4, a5, fun k d hk => ?_, a7, a8, a9, a10⟩
  simp only [qT, sT] at hk
  split at hk
  next hc => subst hc; exact ho d hk
  next => exact a6 k d hk
theorem A_P {t : xa_T} {a : xa_A} {l : Nat} {o : Option Nat} (h : xi_A t a) (ho : ∀ s, o = some s → l < tL t ∧ s < tS t ∧ s ≠ tE t l ∧ ∀ k, qP a k ≠ some s) : xi_A t (sP a l o) := by
  obtain ⟨a1, a2, a3, a4, a5, a6, a7, a8, a9, a10⟩ := h
  refine ⟨a1, a2, a3, fun k s hk => ?_, fun k i s hk hi => ?_, a6, a7, a8, a9, a10⟩
  · simp only [qP, sP] at hk
    split at hk
    next hc => subst hc; exact ⟨(ho s hk).1, (ho s hk).2.1, (ho s hk).2.2.1⟩
    next => exact a4 k s hk
  · simp only [qP, sP] at hk hi
    split at hk
    next hc =>
      split at hi
      next hc2 => rw [hc, hc2]
      next => exact absurd hi ((ho s hk).2.2.2 i)
    next =>
      split at hi
      next => exact absurd hk ((ho s hi).2.2.2 k)
      next => exact a5 k i s hk hi
theorem xl_30k (σ : xr_S) (l : Nat) (v : Int32) (hl : l < 60) : ∀ k, 110 ≤ k → (xr_up σ 50 l v).1 50 k = σ.1 50 k := fun k hk => by rw [xp_same, xp_un (by omega)]
theorem xy_salt {σ : xr_S} (h : xi σ) (x : Int32) : xi_ok σ (xf_X10_salt σ x) (fun τ => xf_X11_salt τ x) := by
  obtain ⟨t, a, hI⟩ := h
  obtain ⟨hT, hA, hc, hm, hC, hM, -⟩ := id hI
  obtain ⟨n1, n2, n3, n4, n5, n6, n7⟩ := id hT
  have hb := xi_bounds hT hA
  cases hl : xs_inr x (tL t) with
  | false =>
    refine ⟨-1000000001, σ, σ, ?_, ?_, ⟨t, a, hI⟩⟩
    · unfold xf_X10_salt; rw [xe_hasLoaf hc.2.2.2.1, hl]; rfl
    · show xf_X11_salt _ _ = _
      unfold xf_X11_salt; rw [xe_isLoaf hm.2.2.2.1 (by omega), hl]; rfl
  | true =>
    obtain ⟨l, hl1, rfl⟩ := xs_inr_t (by omega) hl
    have e5 : xf_X10_bit σ (σ.1 15 3) (nI l) = some (bI ((qS a).testBit l)) := by
      unfold xf_X10_bit
      rw [hC.2.2.2.1, xl_1, xl_31, xp_bitb (by omega) (by omega)]
    refine ⟨bI ((qS a).testBit l), xr_up σ 15 3 (nI (qS a ||| 2 ^ l)), xr_up (xr_up σ 15 3 (nI (qS a ||| 2 ^ l))) 50 (44 + l) (bI true), ?_, ?_, ?_⟩
    · unfold xf_X10_salt
      rw [xe_hasLoaf hc.2.2.2.1, hl, e5, hC.2.2.2.1]
      simp (disch := omega) only [bI_t, Option.bind_some, show ¬ nI 1 = 0 from by decide, if_false, xp_pf, xl_1, xl_31, xp_shl1 l (by omega), xp_or]
    · show xf_X11_salt _ _ = _
      unfold xf_X11_salt
      rw [xe_isLoaf (show (xr_up σ 15 3 (nI (qS a ||| 2 ^ l))).1 49 5 = nI (tL t) from hm.2.2.2.1) (by omega), hl]
      have e2 : (xr_up σ 15 3 (nI (qS a ||| 2 ^ l))).1 50 (44 + l) = bI ((qS a).testBit l) := by rw [xp_other (by decide), (xi_M0 hM).2.2.2.1 l (by omega)]
      simp (disch := omega) only [bI_t, Option.bind_some, show ¬ nI 1 = 0 from by decide, if_false, xl_44, nI_add, xp_ld, xp_st, e2]
      rfl
    · refine xi_ofI (xi_two hI (xi_up1 (by decide) rfl) (xi_up2 (by decide) rfl) (xl_30k _ _ _ (by omega)) (A_S hA (xs_or_lt hA.2.2.2.2.2.2.1 (xs_pow_lt hl1))) (C_S hC) (M_S (by omega) (fun k hk => ?_) (xi_M_fr hM (xp_other (by decide)))))
      rw [Nat.testBit_or, Nat.testBit_two_pow]
      by_cases hkl : k = l
      · subst hkl; simp
      · simp [hkl, Ne.symm hkl]
theorem xp_clrL {a s : Nat} (hs : s < 31) : nI a &&& (((1 : Int32) <<< (nI s &&& 31)) ^^^ (-1)) = nI (xs_clr a s) := by
  have h1 : ((1 : Int32) <<< (nI s &&& 31)) = nI (2 ^ s) := xp_shl1 s hs
  rw [h1, xp_clr hs]
theorem xp_setL {a s : Nat} (hs : s < 31) : nI a ||| ((1 : Int32) <<< (nI s &&& 31)) = nI (a ||| 2 ^ s) := by
  have h1 : ((1 : Int32) <<< (nI s &&& 31)) = nI (2 ^ s) := xp_shl1 s hs
  rw [h1, xp_or]
theorem xy_wake {σ : xr_S} (h : xi σ) (x z : Int32) (hz : z = 0 ∨ z = 1) : xi_ok σ (xf_X10_wake σ x z) (fun τ => xf_X11_wake τ x z) := by
  obtain ⟨t, a, hI⟩ := h
  obtain ⟨hT, hA, hc, hm, hC, hM, -⟩ := id hI
  obtain ⟨n1, n2, n3, n4, n5, n6, n7⟩ := id hT
  have hb := xi_bounds hT hA
  cases hl : xs_inr x (tS t) with
  | false =>
    refine ⟨-1000000001, σ, σ, ?_, ?_, ⟨t, a, hI⟩⟩
    · unfold xf_X10_wake; rw [xe_hasSleeper hc.2.2.1, hl]; rfl
    · show xf_X11_wake _ _ _ = _
      unfold xf_X11_wake; rw [xe_isSleeper hm.2.2.1 (by omega), hl]; rfl
  | true =>
    obtain ⟨s, hs, rfl⟩ := xs_inr_t (by omega) hl
    have e5 : xf_X10_bit σ (σ.1 15 4) (nI s) = some (bI ((qA a).testBit s)) := by
      unfold xf_X10_bit
      rw [hC.2.2.2.2.1, xl_1, xl_31, xp_bitb (by omega) (by omega)]
    have key : ∀ v : Nat, v < 2 ^ tS t → (if z = 0 then nI (xs_clr (qA a) s) else nI (qA a ||| 2 ^ s)) = nI v → xi_ok σ (xf_X10_wake σ (nI s) z) (fun τ => xf_X11_wake τ (nI s) z) := by
      intro v hv hvz
      refine ⟨bI ((qA a).testBit s), xr_up σ 15 4 (nI v), xr_up (xr_up σ 15 4 (nI v)) 50 51 (nI v), ?_, ?_, xi_ofI (xi_two hI (xi_up1 (by decide) rfl) (xi_up2 (by decide) rfl) (xl_30k _ _ _ (by omega)) (A_A hA hv) (C_A hC) (M_A (xi_M_fr hM (xp_other (by decide)))))⟩
      · unfold xf_X10_wake
        rw [xe_hasSleeper hc.2.2.1, hl, e5, hC.2.2.2.2.1]
        simp only [bI_t, Option.bind_some, show ¬ nI 1 = 0 from by decide, if_false, xp_jn, xp_pf]
        rw [xp_clrL (by omega), xp_setL (by omega)]
        by_cases h0 : z = 0
        · rw [if_pos h0] at hvz ⊢; rw [hvz]
        · rw [if_neg h0] at hvz ⊢; rw [hvz]
      · show xf_X11_wake _ _ _ = _
        unfold xf_X11_wake
        rw [xe_isSleeper (show (xr_up σ 15 4 (nI v)).1 49 4 = nI (tS t) from hm.2.2.1) (by omega), hl]
        have e2 : (xr_up σ 15 4 (nI v)).1 50 51 = nI (qA a) := by rw [xp_other (by decide), (xi_M0 hM).2.2.2.2.1]
        rw [xe_isAwakeM e2 (by omega) (by omega)]
        simp only [bI_t, Option.bind_some, show ¬ nI 1 = 0 from by decide, if_false, xp_jn]
        simp (disch := omega) only [xl_51, xp_ld, e2, xp_clrL, xp_setL]
        have fin : ∀ w : Int32, xr_st (xr_up σ 15 4 (nI v)) 50 220 (nI 51) (if z = 0 then nI (xs_clr (qA a) s) else nI (qA a ||| 2 ^ s)) (fun s7 => some (w, s7)) = some (w, xr_up (xr_up σ 15 4 (nI v)) 50 51 (nI v)) := by
          intro w
          rw [hvz, xp_st (by omega) (by omega)]
        cases hbit : (qA a).testBit s
        · simp only [bI_f, show (nI 0 = 0) from rfl, if_true]
          have := fin 0
          by_cases h0 : z = 0
          · rw [if_pos h0] at this ⊢; exact this
          · rw [if_neg h0] at this ⊢; exact this
        · simp only [bI_t, show ¬ nI 1 = 0 from by decide, if_false]
          have := fin (nI 1)
          by_cases h0 : z = 0
          · rw [if_pos h0] at this ⊢; exact this
          · rw [if_neg h0] at this ⊢; exact this
    by_cases h0 : z = 0
    · exact key (xs_clr (qA a) s) (xs_clr_lt hA.2.2.2.2.2.2.2.1) (by rw [if_pos h0])
    · exact key (qA a ||| 2 ^ s) (xs_or_lt hA.2.2.2.2.2.2.2.1 (xs_pow_lt hs)) (by rw [if_neg h0])

