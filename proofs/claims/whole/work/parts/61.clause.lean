/-! clauses, as mathematics -/
def xs_rn (n : Nat) (tx : Nat → Nat) (r : Except (Nat × Nat) Nat) (lo hi : Nat) : Except (Nat × Nat) (Nat × Nat) := match r with
  | .error e => .error e
  | .ok p => xs_num n tx p lo hi
def xs_rs (n : Nat) (tx : Nat → Nat) (r : Except (Nat × Nat) Nat) (c : Nat) : Except (Nat × Nat) Nat := match r with
  | .error e => .error e
  | .ok p => xs_sgn n tx p c
def xs_snd (r : Except (Nat × Nat) (Nat × Nat)) : Except (Nat × Nat) Nat := match r with
  | .error e => .error e
  | .ok x => .ok x.2
def xs_val (r : Except (Nat × Nat) (Nat × Nat)) : Nat := match r with
  | .error _ => 0
  | .ok x => x.1
def xs_pos (r : Except (Nat × Nat) Nat) : Nat := match r with
  | .error _ => 0
  | .ok p => p
theorem xs_rn_ok {n : Nat} {tx : Nat → Nat} {r : Except (Nat × Nat) Nat} {lo hi : Nat} {x : Nat × Nat} (h : xs_rn n tx r lo hi = .ok x) : ∃ p, r = .ok p ∧ xs_num n tx p lo hi = .ok x := by
  cases r with
  | error e => cases h
  | ok p => exact ⟨p, rfl, h⟩
theorem xs_rs_ok {n : Nat} {tx : Nat → Nat} {r : Except (Nat × Nat) Nat} {c z : Nat} (h : xs_rs n tx r c = .ok z) : ∃ p, r = .ok p ∧ xs_sgn n tx p c = .ok z := by
  cases r with
  | error e => cases h
  | ok p => exact ⟨p, rfl, h⟩
theorem xs_snd_ok {r : Except (Nat × Nat) (Nat × Nat)} {p : Nat} (h : xs_snd r = .ok p) : ∃ x, r = .ok x ∧ x.2 = p := by
  cases r with
  | error e => cases h
  | ok x => exact ⟨x, rfl, Except.ok.inj h⟩
/-- position, street, weights, whether the nightmare is told -/
abbrev xa_P : Type := Nat × xa_T × (Nat → Nat → Nat) × Bool
def xs_d1 (n : Nat) (tx : Nat → Nat) (p : Nat) : Except (Nat × Nat) (Nat × Nat) := xs_rn n tx (.ok (p + 1)) 2 6
def xs_d2 (n : Nat) (tx : Nat → Nat) (p : Nat) : Except (Nat × Nat) (Nat × Nat) := xs_rn n tx (xs_snd (xs_d1 n tx p)) 0 6
def xs_cD (n : Nat) (tx : Nat → Nat) (s : xa_P) : Except (Nat × Nat) xa_P := match xs_rs n tx (xs_snd (xs_d2 n tx s.1)) 59 with
  | .error e => .error e
  | .ok z => .ok (z, (xs_val (xs_d1 n tx s.1), xs_val (xs_d2 n tx s.1), tS s.2.1, tL s.2.1, tM s.2.1, tE s.2.1, tW s.2.1, tV s.2.1), s.2.2.1, s.2.2.2)
def xs_n1 (n : Nat) (tx : Nat → Nat) (s : xa_P) : Except (Nat × Nat) (Nat × Nat) := xs_rn n tx (.ok (s.1 + 1)) 0 (tN s.2.1)
def xs_cN (n : Nat) (tx : Nat → Nat) (s : xa_P) : Except (Nat × Nat) xa_P := match xs_rs n tx (xs_snd (xs_n1 n tx s)) 59 with
  | .error e => .error e
  | .ok z => .ok (z, (tN s.2.1, tG s.2.1, tS s.2.1, tL s.2.1, xs_val (xs_n1 n tx s), tE s.2.1, tW s.2.1, tV s.2.1), s.2.2.1, true)
def xs_l1 (n : Nat) (tx : Nat → Nat) (s : xa_P) : Except (Nat × Nat) (Nat × Nat) := xs_rn n tx (.ok (s.1 + 1)) 0 (tS s.2.1)
def xs_l2 (n : Nat) (tx : Nat → Nat) (s : xa_P) : Except (Nat × Nat) (Nat × Nat) := xs_rn n tx (xs_snd (xs_l1 n tx s)) 0 (tN s.2.1)
def xs_l3 (n : Nat) (tx : Nat → Nat) (s : xa_P) : Except (Nat × Nat) (Nat × Nat) := xs_rn n tx (xs_snd (xs_l2 n tx s)) 0 100
def xs_put (f : Nat → Nat) (k v : Nat) : Nat → Nat := fun i => if i = k then v else f i
def xs_cL (n : Nat) (tx : Nat → Nat) (s : xa_P) : Except (Nat × Nat) xa_P := match xs_rs n tx (xs_snd (xs_l3 n tx s)) 59 with
  | .error e => .error e
  | .ok z => .ok (z, (tN s.2.1, tG s.2.1, tS s.2.1, tL s.2.1 + 1, tM s.2.1, xs_put (tE s.2.1) (tL s.2.1) (xs_val (xs_l1 n tx s)), xs_put (tW s.2.1) (tL s.2.1) (xs_val (xs_l2 n tx s)), xs_put (tV s.2.1) (tL s.2.1) (xs_val (xs_l3 n tx s))), s.2.2.1, s.2.2.2)
/-- where the d'th weight of a sleeper is looked for -/
def xs_wb (n : Nat) (tx : Nat → Nat) (p : Nat) : Nat → Except (Nat × Nat) Nat
  | 0 => .ok p
  | d + 1 => xs_rs n tx (xs_snd (xs_rn n tx (xs_wb n tx p d) 0 10)) 44
def xs_wn (n : Nat) (tx : Nat → Nat) (p d : Nat) : Except (Nat × Nat) (Nat × Nat) := xs_rn n tx (xs_wb n tx p d) 0 10
def xs_wz4 (n : Nat) (tx : Nat → Nat) (s : xa_P) : Except (Nat × Nat) Nat := match xs_snd (xs_wn n tx (s.1 + 1) (tN s.2.1 - 1)) with
  | .error e => .error e
  | .ok q => if xs_sum (fun d => xs_val (xs_wn n tx (s.1 + 1) d)) (tN s.2.1) = 0 then .error (4, xs_sk n tx (xs_pos (xs_wb n tx (s.1 + 1) (tN s.2.1 - 1)))) else .ok q
def xs_row (w : Nat → Nat → Nat) (s N : Nat) (g : Nat → Nat) : Nat → Nat → Nat := fun i d => if i = s ∧ d < N then g d else w i d
def xs_cS (n : Nat) (tx : Nat → Nat) (s : xa_P) : Except (Nat × Nat) xa_P := match xs_rs n tx (xs_wz4 n tx s) 59 with
  | .error e => .error e
  | .ok z => .ok (z, (tN s.2.1, tG s.2.1, tS s.2.1 + 1, tL s.2.1, tM s.2.1, tE s.2.1, tW s.2.1, tV s.2.1), xs_row s.2.2.1 (tS s.2.1) (tN s.2.1) (fun d => xs_val (xs_wn n tx (s.1 + 1) d)), s.2.2.2)
def xs_cl (n : Nat) (tx : Nat → Nat) (s : xa_P) : Except (Nat × Nat) xa_P := if tx s.1 = 100 then (if tN s.2.1 = 0 then xs_cD n tx s else .error (3, s.1)) else if tN s.2.1 = 0 then .error (1, s.1) else if tx s.1 = 108 then (if tL s.2.1 < 7 then xs_cL n tx s else .error (3, s.1)) else if tx s.1 = 110 then (if s.2.2.2 then .error (3, s.1) else xs_cN n tx s) else if tx s.1 = 115 then (if tS s.2.1 < 6 then xs_cS n tx s else .error (3, s.1)) else .error (1, s.1)
/-! what holds between clauses -/
def xs_pi (s : xa_P) : Prop := xi_T s.2.1 ∧ (∀ i d, s.2.2.1 i d ≤ 9) ∧ (∀ i d, tN s.2.1 ≤ d → s.2.2.1 i d = 0) ∧ (∀ i d, tS s.2.1 ≤ i → s.2.2.1 i d = 0) ∧ ∀ i, i < tS s.2.1 → 0 < xs_sum (s.2.2.1 i) 5
theorem xs_wb_le {n : Nat} {tx : Nat → Nat} {p : Nat} (hp : p ≤ n) : ∀ d q, xs_wb n tx p d = .ok q → p ≤ q ∧ q ≤ n := by
  intro d
  induction d with
  | zero => intro q h; cases h; exact ⟨Nat.le_refl _, hp⟩
  | succ d ih =>
    intro q h
    obtain ⟨r, h1, h2⟩ := xs_rs_ok h
    obtain ⟨x, h3, h4⟩ := xs_snd_ok h1
    obtain ⟨u, h5, h6⟩ := xs_rn_ok h3
    have a1 := ih u h5
    have a2 := xs_num_ok h6 a1.2
    have a3 := xs_sgn_ok h2
    omega
theorem xs_wn_val {n : Nat} {tx : Nat → Nat} {p : Nat} (hp : p ≤ n) (d : Nat) : xs_val (xs_wn n tx p d) ≤ 9 := by
  cases h : xs_wn n tx p d with
  | error e => exact Nat.zero_le _
  | ok x =>
    obtain ⟨u, h5, h6⟩ := xs_rn_ok h
    have a1 := xs_wb_le hp d u h5
    have a2 := xs_num_ok (v := x.1) (e := x.2) h6 a1.2
    show x.1 ≤ 9
    omega
theorem xs_cl_ok {n : Nat} {tx : Nat → Nat} {s s' : xa_P} (hp : s.1 < n) (hs : xs_pi s) (h : xs_cl n tx s = .ok s') : s.1 < s'.1 ∧ s'.1 ≤ n ∧ xs_pi s' := by
  obtain ⟨⟨t1, t2, t3, t4, t5, t6, t7⟩, w1, w2, w3, w4⟩ := id hs
  unfold xs_cl at h
  split at h
  · split at h
    next hN =>
      unfold xs_cD at h
      split at h
      · cases h
      next z hz =>
        obtain ⟨r, h1, h2⟩ := xs_rs_ok hz
        obtain ⟨y, h3, h4⟩ := xs_snd_ok h1
        obtain ⟨u, h5, h6⟩ := xs_rn_ok h3
        obtain ⟨x, h7, h8⟩ := xs_snd_ok h5
        obtain ⟨v, h9, h10⟩ := xs_rn_ok h7
        cases h9
        have a1 := xs_num_ok (v := x.1) (e := x.2) h10 (by omega)
        have a2 := xs_num_ok (v := y.1) (e := y.2) h6 (by omega)
        have a3 := xs_sgn_ok h2
        have e1 : xs_val (xs_d1 n tx s.1) = x.1 := by rw [h7]; rfl
        have e2 : xs_val (xs_d2 n tx s.1) = y.1 := by rw [h3]; rfl
        have hS : tS s.2.1 = 0 := by
          rcases Nat.eq_zero_or_pos (tS s.2.1) with h | h
          · exact h
          · have := t6 h; omega
        have hL : tL s.2.1 = 0 := by
          rcases Nat.eq_zero_or_pos (tL s.2.1) with h | h
          · exact h
          · have := (t7 0 h).2.1; omega
        have := Except.ok.inj h
        subst this
        refine ⟨by show s.1 < z; omega, a3.2, ⟨by show xs_val (xs_d1 n tx s.1) ≤ 5; omega, by show xs_val (xs_d2 n tx s.1) ≤ 5; omega, t3, t4, t5, fun _ => by show 0 < xs_val (xs_d1 n tx s.1); omega, fun l hl => ?_⟩, w1, fun i d _ => w2 i d (by omega), w3, w4⟩
        have : l < tL s.2.1 := hl
        omega
    · cases h
  · split at h
    · cases h
    next hN =>
      split at h
      · split at h
        next hL7 =>
          unfold xs_cL at h
          split at h
          · cases h
          next z hz =>
            obtain ⟨r, h1, h2⟩ := xs_rs_ok hz
            obtain ⟨y3, g3, h4⟩ := xs_snd_ok h1
            obtain ⟨u3, h5, h6⟩ := xs_rn_ok g3
            obtain ⟨y2, g2, h8⟩ := xs_snd_ok h5
            obtain ⟨u2, h9, h10⟩ := xs_rn_ok g2
            obtain ⟨y1, g1, h12⟩ := xs_snd_ok h9
            obtain ⟨u1, h13, h14⟩ := xs_rn_ok g1
            cases h13
            have a1 := xs_num_ok (v := y1.1) (e := y1.2) h14 (by omega)
            have a2 := xs_num_ok (v := y2.1) (e := y2.2) h10 (by omega)
            have a3 := xs_num_ok (v := y3.1) (e := y3.2) h6 (by omega)
            have a4 := xs_sgn_ok h2
            have e1 : xs_val (xs_l1 n tx s) = y1.1 := by rw [g1]; rfl
            have e2 : xs_val (xs_l2 n tx s) = y2.1 := by rw [g2]; rfl
            have e3 : xs_val (xs_l3 n tx s) = y3.1 := by rw [g3]; rfl
            have := Except.ok.inj h
            subst this
            refine ⟨by show s.1 < z; omega, a4.2, ⟨t1, t2, t3, by show tL s.2.1 + 1 ≤ 7; omega, t5, t6, fun l hl => ?_⟩, w1, w2, w3, w4⟩
            have hl' : l < tL s.2.1 + 1 := hl
            show xs_put (tE s.2.1) (tL s.2.1) _ l < tS s.2.1 ∧ xs_put (tW s.2.1) (tL s.2.1) _ l < tN s.2.1 ∧ xs_put (tV s.2.1) (tL s.2.1) _ l ≤ 99
            unfold xs_put
            by_cases hlL : l = tL s.2.1
            · rw [if_pos hlL, if_pos hlL, if_pos hlL]; omega
            · rw [if_neg hlL, if_neg hlL, if_neg hlL]; exact t7 l (by omega)
        · cases h
      · split at h
        · split at h
          · cases h
          next hm =>
            unfold xs_cN at h
            split at h
            · cases h
            next z hz =>
              obtain ⟨r, h1, h2⟩ := xs_rs_ok hz
              obtain ⟨y1, g1, h12⟩ := xs_snd_ok h1
              obtain ⟨u1, h13, h14⟩ := xs_rn_ok g1
              cases h13
              have a1 := xs_num_ok (v := y1.1) (e := y1.2) h14 (by omega)
              have a4 := xs_sgn_ok h2
              have e1 : xs_val (xs_n1 n tx s) = y1.1 := by rw [g1]; rfl
              have := Except.ok.inj h
              subst this
              exact ⟨by show s.1 < z; omega, a4.2, ⟨t1, t2, t3, t4, by show xs_val (xs_n1 n tx s) ≤ 4; omega, t6, t7⟩, w1, w2, w3, w4⟩
        · split at h
          · split at h
            next hS6 =>
              unfold xs_cS at h
              split at h
              · cases h
              next z hz =>
                obtain ⟨r, h1, h2⟩ := xs_rs_ok hz
                have a4 := xs_sgn_ok h2
                unfold xs_wz4 at h1
                split at h1
                · cases h1
                next q hq =>
                  split at h1
                  · cases h1
                  next hsum =>
                    cases h1
                    obtain ⟨x, h3, h4⟩ := xs_snd_ok hq
                    obtain ⟨u, h5, h6⟩ := xs_rn_ok h3
                    have a1 := xs_wb_le (by omega) _ u h5
                    have a2 := xs_num_ok (v := x.1) (e := x.2) h6 a1.2
                    have hv := fun d => xs_wn_val (n := n) (tx := tx) (p := s.1 + 1) (by omega) d
                    have := Except.ok.inj h
                    subst this
                    refine ⟨by show s.1 < z; omega, a4.2, ⟨t1, t2, by show tS s.2.1 + 1 ≤ 6; omega, t4, t5, fun _ => by show 0 < tN s.2.1; omega, fun l hl => ⟨by show tE s.2.1 l < tS s.2.1 + 1; have := (t7 l hl).1; omega, (t7 l hl).2⟩⟩, fun i d => ?_, fun i d hd => ?_, fun i d hi => ?_, fun i hi => ?_⟩
                    · show xs_row s.2.2.1 (tS s.2.1) (tN s.2.1) (fun d => xs_val (xs_wn n tx (s.1 + 1) d)) i d ≤ 9
                      unfold xs_row
                      split
                      · exact hv d
                      · exact w1 i d
                    · show xs_row s.2.2.1 (tS s.2.1) (tN s.2.1) (fun d => xs_val (xs_wn n tx (s.1 + 1) d)) i d = 0
                      have hd' : tN s.2.1 ≤ d := hd
                      unfold xs_row
                      rw [if_neg (by omega)]
                      exact w2 i d hd'
                    · show xs_row s.2.2.1 (tS s.2.1) (tN s.2.1) (fun d => xs_val (xs_wn n tx (s.1 + 1) d)) i d = 0
                      have hi' : tS s.2.1 + 1 ≤ i := hi
                      unfold xs_row
                      rw [if_neg (by omega)]
                      exact w3 i d (by omega)
                    · show 0 < xs_sum (xs_row s.2.2.1 (tS s.2.1) (tN s.2.1) _ i) 5
                      have hi' : i < tS s.2.1 + 1 := hi
                      by_cases his : i = tS s.2.1
                      · have e1 : xs_sum (xs_row s.2.2.1 (tS s.2.1) (tN s.2.1) (fun d => xs_val (xs_wn n tx (s.1 + 1) d)) i) 5 = xs_sum (xs_row s.2.2.1 (tS s.2.1) (tN s.2.1) (fun d => xs_val (xs_wn n tx (s.1 + 1) d)) i) (tN s.2.1) := xs_sum_cut (fun k hk => by unfold xs_row; rw [if_neg (by omega)]; exact w2 i k hk) 5 t1
                        rw [e1, xs_sum_cong (g := fun d => xs_val (xs_wn n tx (s.1 + 1) d)) (fun k hk => by unfold xs_row; rw [if_pos ⟨his, hk⟩])]
                        omega
                      · rw [xs_sum_cong (g := s.2.2.1 i) (fun k hk => by unfold xs_row; rw [if_neg (by omega)])]
                        exact w4 i (by omega)
            · cases h
          · cases h
