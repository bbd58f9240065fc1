/-! ===== kept: extend ===== -/
theorem wf_ex {f : Nat → Int} (hW : kWf f) {m k : Int} {e : Nat} (hm : 0 ≤ m ∧ m < f 1) (hk : 1 ≤ k ∧ k ≤ 14) (he : oF f m 3 + (e : Int) ≤ 6) (hd : dF f m (oF f m 3 - 1) 0 + k * (e : Int) < 28)
    (hs : ∀ j : Nat, j < e → 0 ≤ exS f m k 0 ((j : Int) + 1)) : kWf (lyF (exF2 f m k e) m 3 (oF f m 3 - 1 + 1 + (e : Int))) := by
  have h8 := kWf_cnt hW
  have g := kWf_m hW hm.1 hm.2
  have gd := kWf_d hW (d := oF f m 3 - 1) hm.1 hm.2 (by omega) (by omega)
  have hc : 1 ≤ oF f m 3 ∧ oF f m 3 + (e : Int) ≤ 6 := ⟨by omega, he⟩
  have lo : ∀ j : Nat, j < 20 → lyF (exF2 f m k e) m 3 (oF f m 3 - 1 + 1 + (e : Int)) j = f j := fun j hj => by rw [ly_lo hm.1 (by decide) hj, ex_lo hm.1 hc.1 hj]
  have ro : ∀ m' w : Int, 0 ≤ m' → 0 ≤ w → w < 40 → ¬(m' = m ∧ w = 3) → ¬ (m' = m ∧ 10 + 4 * oF f m 3 ≤ w ∧ w < 10 + 4 * (oF f m 3 + (e : Int))) → oF (lyF (exF2 f m k e) m 3 (oF f m 3 - 1 + 1 + (e : Int))) m' w = oF f m' w := fun m' w a1 a2 a3 a4 a5 => by
    rw [oF_ly hm.1 (by decide) a1 ⟨a2, a3⟩, if_neg a4, ex_oF hm.1 hc a1 ⟨a2, a3⟩ a5]
  have r3 : oF (lyF (exF2 f m k e) m 3 (oF f m 3 - 1 + 1 + (e : Int))) m 3 = oF f m 3 + (e : Int) := by
    rw [oF_ly hm.1 (by decide) hm.1 (by decide), if_pos ⟨rfl, rfl⟩]; omega
  have r3' : ∀ m' : Int, 0 ≤ m' → m' ≠ m → oF (lyF (exF2 f m k e) m 3 (oF f m 3 - 1 + 1 + (e : Int))) m' 3 = oF f m' 3 := fun m' a1 a2 => ro m' 3 a1 (by decide) (by decide) (fun z => a2 z.1) (fun z => a2 z.1)
  have rw9 : ∀ m' w : Int, 0 ≤ m' → 0 ≤ w → w < 10 → w ≠ 3 → oF (lyF (exF2 f m k e) m 3 (oF f m 3 - 1 + 1 + (e : Int))) m' w = oF f m' w := fun m' w a1 a2 a3 a4 => ro m' w a1 a2 (by omega) (fun z => a4 z.2) (by omega)
  have hex : ∀ m' p : Int, 0 ≤ m' → 0 ≤ p → p < 6 → (exF (lyF (exF2 f m k e) m 3 (oF f m 3 - 1 + 1 + (e : Int))) m' p ↔ exF f m' p) := fun m' p a1 a2 a3 => by
    unfold exF; rw [rw9 m' 1 a1 (by decide) (by decide) (by decide), rw9 m' (4 + p) a1 (by omega) (by omega) (by omega)]
  -- a new date: the j-th behind the last
  have nd : ∀ d : Int, oF f m 3 ≤ d → d < oF f m 3 + (e : Int) → ∃ j : Nat, j < e ∧ d = oF f m 3 + (j : Int) ∧ dF (lyF (exF2 f m k e) m 3 (oF f m 3 - 1 + 1 + (e : Int))) m d 0 = dF f m (oF f m 3 - 1) 0 + k * ((j : Int) + 1) ∧ dF (lyF (exF2 f m k e) m 3 (oF f m 3 - 1 + 1 + (e : Int))) m d 1 = dF f m (oF f m 3 - 1) 1 ∧ dF (lyF (exF2 f m k e) m 3 (oF f m 3 - 1 + 1 + (e : Int))) m d 2 = 0 ∧ dF (lyF (exF2 f m k e) m 3 (oF f m 3 - 1 + 1 + (e : Int))) m d 3 = exS f m k 0 ((j : Int) + 1) := by
    intro d x1 x2
    obtain ⟨j, hj⟩ := Int.eq_ofNat_of_zero_le (show 0 ≤ d - oF f m 3 by omega)
    have ed : d = oF f m 3 + (j : Int) := by omega
    subst ed
    obtain ⟨u0, u1, u2, u3⟩ := ex_dt (k := k) hm.1 hc (j := j) (by omega)
    have y : ∀ w : Int, 0 ≤ w → w < 4 → dF (lyF (exF2 f m k e) m 3 (oF f m 3 - 1 + 1 + (e : Int))) m (oF f m 3 + (j : Int)) w = dF (exF2 f m k e) m (oF f m 3 + (j : Int)) w := fun w w0 w1 => by
      unfold dF
      rw [oF_ly hm.1 (by decide) hm.1 ⟨by omega, by omega⟩, if_neg (by omega)]
    exact ⟨j, by omega, rfl, by rw [y 0 (by decide) (by decide)]; exact u0, by rw [y 1 (by decide) (by decide)]; exact u1, by rw [y 2 (by decide) (by decide)]; exact u2, by rw [y 3 (by decide) (by decide)]; exact u3⟩
  have kj : ∀ j : Nat, j < e → 0 ≤ k * ((j : Int) + 1) ∧ k * ((j : Int) + 1) ≤ k * (e : Int) := fun j hj => ⟨Int.mul_nonneg (by omega) (by omega), kmul_m (by omega) (by omega)⟩
  refine wf_add hW (fun m' d => m' = m ∧ oF f m 3 ≤ d) (by rw [lo 0 (by decide)]; exact kWf_gap hW) (by rw [lo 1 (by decide)]; exact h8) (by rw [lo 2 (by decide)]; exact kWf_nxt hW) (by rw [lo 3 (by decide)]; exact kWf_rsn hW) (by rw [lo 4 (by decide)]; exact kWf_dtl hW) (fun r r0 r1 => by rw [lo _ (by omega), lo _ (by omega)]; exact kWf_room hW r0 r1) ?_ ?_ ?_ ?_ ?_ ?_ ?_
  · intro m' b0 b1
    rw [lo 1 (by decide)] at b1
    rw [rw9 m' 0 b0 (by decide) (by decide) (by decide), rw9 m' 1 b0 (by decide) (by decide) (by decide), rw9 m' 2 b0 (by decide) (by decide) (by decide), lo 2 (by decide)]
    have y := kWf_m hW b0 b1
    by_cases c : m' = m
    · subst c; rw [r3]; omega
    · rw [r3' m' b0 c]; exact y
  · intro m' p b0 b1 p0 p1
    rw [lo 1 (by decide)] at b1
    rw [rw9 m' (4 + p) b0 (by omega) (by omega) (by omega), rw9 m' 1 b0 (by decide) (by decide) (by decide)]
    exact kWf_p hW b0 b1 p0 p1
  · intro m' m'' b0 b1 b2
    rw [lo 1 (by decide)] at b2
    rw [rw9 m' 0 b0 (by decide) (by decide) (by decide), rw9 m'' 0 (by omega) (by decide) (by decide) (by decide)]
    exact kWf_inc hW b0 b1 b2
  · intro m' d z c
    have z0 := z.1
    have z1 := z.2.1
    have z2 := z.2.2.1
    have z3 := z.2.2.2
    rw [lo 1 (by decide)] at z1
    have y := kWf_m hW z0 z1
    have hd3 : d < oF f m' 3 := by
      by_cases c2 : m' = m
      · subst c2
        by_cases c3 : oF f m' 3 ≤ d
        · exact absurd ⟨rfl, c3⟩ c
        · omega
      · rw [r3' m' z0 c2] at z3; exact z3
    refine ⟨⟨z0, z1, z2, hd3⟩, fun w w0 w1 => ?_, rw9 m' 2 z0 (by decide) (by decide) (by decide), fun p p0 p1 => hex m' p z0 p0 p1⟩
    refine ro m' _ z0 (by omega) (by omega) (by omega) (fun q => ?_)
    have := q.1
    subst this
    omega
  · rintro m' d z ⟨rfl, c⟩
    have z3 := z.2.2.2
    rw [r3] at z3
    obtain ⟨j, hj, -, u0, u1, u2, u3⟩ := nd d c z3
    have kk := kj j hj
    have rr := smlF_r f (-1) (-1) (ppF f m') (dF f m' (oF f m' 3 - 1) 0 + k * ((j : Int) + 1)) (dF f m' (oF f m' 3 - 1) 1) (oF f m' 2)
    have ss := hs j hj
    have e9 : exS f m' k 0 ((j : Int) + 1) = smlF f (-1) (-1) (ppF f m') (dF f m' (oF f m' 3 - 1) 0 + k * ((j : Int) + 1)) (dF f m' (oF f m' 3 - 1) 1) (oF f m' 2) := rfl
    rw [u0, u1, u2, u3, rw9 m' 2 hm.1 (by decide) (by decide) (by decide)]
    omega
  · rintro m' d m'' d'' z ⟨rfl, c⟩ y1 y2 y3 y4 y5 y6 y7
    have z3 := z.2.2.2
    rw [r3] at z3
    obtain ⟨j, hj, -, u0, u1, u2, u3⟩ := nd d c z3
    rw [u0] at y5
    rw [u1, rw9 m' 2 hm.1 (by decide) (by decide) (by decide)] at y6
    rw [u1] at y7
    rw [u3]
    have hfit : fitF f (-1) (-1) (exS f m' k 0 ((j : Int) + 1)) (ppF f m') (dF f m' (oF f m' 3 - 1) 0 + k * ((j : Int) + 1)) (dF f m' (oF f m' 3 - 1) 1) (oF f m' 2) := sml_P (i := 4) (show 0 ≤ smlF f (-1) (-1) (ppF f m') (dF f m' (oF f m' 3 - 1) 0 + k * ((j : Int) + 1)) (dF f m' (oF f m' 3 - 1) 1) (oF f m' 2) from hs j hj)
    obtain ⟨v1, v2⟩ := fit_ov hW (by omega) hfit y1 y4 y5 (fun q => absurd y1.1 (by omega)) y6 y7
    exact ⟨v1, fun p hp x => v2 p hp ⟨x.1, (ppF_bit hp).mpr ((hex m' _ hm.1 (by omega) (by omega)).mp x.2)⟩⟩
  · rintro m' d m'' d'' z ⟨rfl, c⟩ y ⟨rfl, c'⟩ hne
    have z3 := z.2.2.2
    have y3 := y.2.2.2
    rw [r3] at z3 y3
    obtain ⟨j, hj, ej, u0, -⟩ := nd d c z3
    obtain ⟨j', hj', ej', u0', -⟩ := nd d'' c' y3
    rw [u0, u0']
    intro q
    have q2 : k * ((j : Int) + 1) = k * ((j' : Int) + 1) := by omega
    have q3 := Int.eq_of_mul_eq_mul_left (show k ≠ 0 by omega) q2
    exact hne ⟨rfl, by omega⟩
theorem exb_r (f : Nat → Int) (m k : Int) (e : Nat) : exb f m k e = -1 ∨ 0 ≤ exb f m k e := by
  unfold exb
  rcases kls_spec (fun j => 0 ≤ exB f m k ((j : Int) + 1)) e with ⟨h1, -⟩ | ⟨i, h1, -⟩ <;> omega
theorem exs_r (f : Nat → Int) (m k : Int) (e : Nat) : (exs f m k e = -1 ∧ ∀ j : Nat, j < e → 0 ≤ exS f m k 0 ((j : Int) + 1)) ∨ (0 ≤ exs f m k e ∧ exs f m k e < (e : Int)) := by
  unfold exs
  rcases kls_spec (fun j => exS f m k 0 ((j : Int) + 1) < 0) e with ⟨h1, h2⟩ | ⟨i, h1, h2, -⟩
  · exact Or.inl ⟨h1, fun j hj => by have := h2 j hj; omega⟩
  · rw [h1]; exact Or.inr (by omega)
theorem wf_extend {f : Nat → Int} (hW : kWf f) (n k e : Int) : kWf (Textend f n k e).2.2 := by
  unfold Textend
  have hat := atF_r (n := n) (kWf_cnt hW).1
  have h8 := kWf_cnt hW
  by_cases c1 : atF f n < 0
  · rw [kI_t c1]; exact hW
  · rw [kI_f c1]
    by_cases c2 : 1 ≤ k ∧ k ≤ 14 ∧ 1 ≤ e ∧ e ≤ 5
    · rw [kI_t c2]
      have g := kWf_m hW (m := atF f n) (by omega) (by omega)
      obtain ⟨i, rfl⟩ := Int.eq_ofNat_of_zero_le (show 0 ≤ e by omega)
      by_cases c3 : 28 ≤ dF f (atF f n) (oF f (atF f n) 3 - 1) 0 + k * (i : Int)
      · rw [kI_t c3]; exact hW
      · rw [kI_f c3]
        by_cases c4 : 6 < oF f (atF f n) 3 + (i : Int)
        · rw [kI_t c4]; exact hW
        · rw [kI_f c4]
          rw [Int.toNat_natCast]
          by_cases c5 : 0 ≤ exb f (atF f n) k i
          · rw [kI_t c5]
            have r := bsyF_r f (-1) (-1) (ppF f (atF f n)) (dF f (atF f n) (oF f (atF f n) 3 - 1) 0 + k * (exb f (atF f n) k i + 1)) (dF f (atF f n) (oF f (atF f n) 3 - 1) 1) (oF f (atF f n) 2)
            refine wf_rf hW (by decide) ?_
            have z : 0 ≤ exB f (atF f n) k (exb f (atF f n) k i + 1) := by
              unfold exb at c5 ⊢
              rcases kls_spec (fun j => 0 ≤ exB f (atF f n) k ((j : Int) + 1)) i with ⟨h1, -⟩ | ⟨j, h1, -, h3, -⟩
              · omega
              · rw [h1]; exact h3
            have e9 : exB f (atF f n) k (exb f (atF f n) k i + 1) = bsyF f (-1) (-1) (ppF f (atF f n)) (dF f (atF f n) (oF f (atF f n) 3 - 1) 0 + k * (exb f (atF f n) k i + 1)) (dF f (atF f n) (oF f (atF f n) 3 - 1) 1) (oF f (atF f n) 2) := rfl
            omega
          · rw [kI_f c5]
            have rs := exs_r f (atF f n) k i
            by_cases c6 : 0 ≤ exs f (atF f n) k i
            · rw [kI_t c6]; exact wf_rf hW (by decide) (by omega)
            · rw [kI_f c6]
              rcases rs with ⟨-, rs⟩ | rs
              · exact wf_ex hW ⟨by omega, by omega⟩ ⟨by omega, by omega⟩ (by omega) (by omega) rs
              · omega
    · rw [kI_f c2]; exact hW
