/-! ===== kept: move, ask, extend: rows with new dates ===== -/
theorem wf_add {f f' : Nat → Int} (hW : kWf f) (N : Int → Int → Prop)
    (h0 : 0 ≤ f' 0 ∧ f' 0 ≤ 3) (h1 : 0 ≤ f' 1 ∧ f' 1 ≤ 8) (h2 : 0 ≤ f' 2 ∧ f' 2 ≤ 1000000) (h3 : 0 ≤ f' 3 ∧ f' 3 ≤ 4) (h4 : 0 ≤ f' 4 ∧ f' 4 ≤ 6)
    (hr : ∀ r : Int, 0 ≤ r → r < 4 → 0 ≤ f' (5 + r).toNat ∧ f' (5 + r).toNat ≤ 6 ∧ 0 ≤ f' (9 + r).toNat ∧ f' (9 + r).toNat ≤ 1)
    (hg : ∀ m : Int, 0 ≤ m → m < f' 1 → 0 ≤ oF f' m 0 ∧ oF f' m 0 < f' 2 ∧ 0 ≤ oF f' m 1 ∧ oF f' m 1 < 6 ∧ 1 ≤ oF f' m 2 ∧ oF f' m 2 ≤ 6 ∧ 1 ≤ oF f' m 3 ∧ oF f' m 3 ≤ 6)
    (hp : ∀ m p : Int, 0 ≤ m → m < f' 1 → 0 ≤ p → p < 6 → (oF f' m (4 + p) = 45 ∨ oF f' m (4 + p) = 111 ∨ oF f' m (4 + p) = 121 ∨ oF f' m (4 + p) = 110) ∧ (p = oF f' m 1 → oF f' m (4 + p) = 45))
    (hi : ∀ m m' : Int, 0 ≤ m → m < m' → m' < f' 1 → oF f' m 0 < oF f' m' 0)
    (hold : ∀ m d : Int, inP f' m d → ¬ N m d → inP f m d ∧ (∀ w : Int, 0 ≤ w → w < 4 → dF f' m d w = dF f m d w) ∧ oF f' m 2 = oF f m 2 ∧ ∀ p : Int, 0 ≤ p → p < 6 → (exF f' m p ↔ exF f m p))
    (hnew : ∀ m d : Int, inP f' m d → N m d → 0 ≤ dF f' m d 0 ∧ dF f' m d 0 < 28 ∧ 0 ≤ dF f' m d 1 ∧ dF f' m d 1 + oF f' m 2 ≤ 16 ∧ dF f' m d 2 = 0 ∧ 0 ≤ dF f' m d 3 ∧ dF f' m d 3 < 4)
    (hno : ∀ m d m' d' : Int, inP f' m d → N m d → inP f m' d' → inP f' m' d' → ¬ N m' d' → onF f m' d' → dF f m' d' 0 = dF f' m d 0 → dF f m' d' 1 < dF f' m d 1 + oF f' m 2 → dF f' m d 1 < dF f m' d' 1 + oF f m' 2 → dF f m' d' 3 ≠ dF f' m d 3 ∧ ∀ p : Nat, p < 6 → ¬ (exF f m' (p : Int) ∧ exF f' m (p : Int)))
    (hnn : ∀ m d m' d' : Int, inP f' m d → N m d → inP f' m' d' → N m' d' → ¬(m = m' ∧ d = d') → dF f' m d 0 ≠ dF f' m' d' 0) : kWf f' := by
  obtain ⟨-, -, -, -, -, -, g, i, j, k, l⟩ := id hW
  refine ⟨h0, h1, h2, h3, h4, hr, hg, hp, ?_, hi, ?_⟩
  · intro m d m0 m1 d0 d1
    by_cases c : N m d
    · have z := hnew m d ⟨m0, m1, d0, d1⟩ c
      omega
    · obtain ⟨u1, u2, u3, -⟩ := hold m d ⟨m0, m1, d0, d1⟩ c
      have y := j m d u1.1 u1.2.1 u1.2.2.1 u1.2.2.2
      rw [u2 0 (by decide) (by decide), u2 1 (by decide) (by decide), u2 2 (by decide) (by decide), u2 3 (by decide) (by decide), u3]
      exact y
  · intro m d m' d' m0 m1 d0 d1 m0' m1' d0' d1' hne o1 o2 hk t1 t2
    have hin : inP f' m d := ⟨m0, m1, d0, d1⟩
    have hin' : inP f' m' d' := ⟨m0', m1', d0', d1'⟩
    by_cases c : N m d
    · by_cases c' : N m' d'
      · exact absurd hk (hnn m d m' d' hin c hin' c' hne)
      · obtain ⟨u1, u2, u3, u4⟩ := hold m' d' hin' c'
        have o2' : onF f m' d' := by unfold onF at o2 ⊢; rw [← u2 2 (by decide) (by decide)]; exact o2
        rw [u2 0 (by decide) (by decide)] at hk
        rw [u2 1 (by decide) (by decide), u3] at t1
        rw [u2 1 (by decide) (by decide)] at t2
        obtain ⟨v1, v2⟩ := hno m d m' d' hin c u1 hin' c' o2' hk.symm t2 t1
        rw [u2 3 (by decide) (by decide)]
        refine ⟨fun e => v1 e.symm, fun p p0 p1 ⟨x1, x2⟩ => ?_⟩
        obtain ⟨q, rfl⟩ := Int.eq_ofNat_of_zero_le p0
        exact v2 q (by omega) ⟨(u4 _ p0 p1).mp x2, x1⟩
    · obtain ⟨u1, u2, u3, u4⟩ := hold m d hin c
      have o1' : onF f m d := by unfold onF at o1 ⊢; rw [← u2 2 (by decide) (by decide)]; exact o1
      rw [u2 0 (by decide) (by decide)] at hk
      rw [u2 1 (by decide) (by decide)] at t1
      rw [u2 1 (by decide) (by decide), u3] at t2
      rw [u2 3 (by decide) (by decide)]
      by_cases c' : N m' d'
      · obtain ⟨v1, v2⟩ := hno m' d' m d hin' c' u1 hin c o1' hk t1 t2
        refine ⟨v1, fun p p0 p1 ⟨x1, x2⟩ => ?_⟩
        obtain ⟨q, rfl⟩ := Int.eq_ofNat_of_zero_le p0
        exact v2 q (by omega) ⟨(u4 _ p0 p1).mp x1, x2⟩
      · obtain ⟨w1, w2, w3, w4⟩ := hold m' d' hin' c'
        have o2' : onF f m' d' := by unfold onF at o2 ⊢; rw [← w2 2 (by decide) (by decide)]; exact o2
        rw [w2 0 (by decide) (by decide)] at hk
        rw [w2 1 (by decide) (by decide), w3] at t1
        rw [w2 1 (by decide) (by decide)] at t2
        rw [w2 3 (by decide) (by decide)]
        obtain ⟨v1, v2⟩ := l m d m' d' u1.1 u1.2.1 u1.2.2.1 u1.2.2.2 w1.1 w1.2.1 w1.2.2.1 w1.2.2.2 hne o1' o2' hk t1 t2
        exact ⟨v1, fun p p0 p1 ⟨x1, x2⟩ => v2 p p0 p1 ⟨(u4 _ p0 p1).mp x1, (w4 _ p0 p1).mp x2⟩⟩
theorem wf_mv {f : Nat → Int} (hW : kWf f) {m d k t : Int} (hi : inP f m d) (hk : 0 ≤ k ∧ k < 28) (ht : 0 ≤ t ∧ t + oF f m 2 ≤ 16) (hs : 0 ≤ smlF f m d (ppF f m) k t (oF f m 2)) : kWf (dtF f m d k t (smlF f m d (ppF f m) k t (oF f m 2))) := by
  have hfit : fitF f m d (smlF f m d (ppF f m) k t (oF f m 2)) (ppF f m) k t (oF f m 2) := sml_P (i := 4) hs
  have hsr := smlF_r f m d (ppF f m) k t (oF f m 2)
  generalize hrm : smlF f m d (ppF f m) k t (oF f m 2) = rm at *
  have h8 := kWf_cnt hW
  have g := kWf_m hW hi.1 hi.2.1
  have hd6 : 0 ≤ d ∧ d < 6 := ⟨hi.2.2.1, by have := hi.2.2.2; omega⟩
  have lo : ∀ j : Nat, j < 20 → dtF f m d k t rm j = f j := fun j hj => dt_lo hi.1 hd6.1 hj
  have ro : ∀ m' w : Int, 0 ≤ m' → 0 ≤ w → w < 10 → oF (dtF f m d k t rm) m' w = oF f m' w := fun m' w a1 a2 a3 => by
    rw [dt_oF hi.1 hd6 a1 ⟨a2, by omega⟩, if_neg (by omega), if_neg (by omega), if_neg (by omega), if_neg (by omega)]
  have rd : ∀ m' d' w : Int, 0 ≤ m' → 0 ≤ d' → d' < 6 → 0 ≤ w → w < 4 → ¬(m' = m ∧ d' = d) → dF (dtF f m d k t rm) m' d' w = dF f m' d' w := fun m' d' w a1 a2 a3 a4 a5 a6 => by
    unfold dF
    rw [dt_oF hi.1 hd6 a1 ⟨by omega, by omega⟩, if_neg (by omega), if_neg (by omega), if_neg (by omega), if_neg (by omega)]
  have n0 : dF (dtF f m d k t rm) m d 0 = k := by
    unfold dF; rw [dt_oF hi.1 hd6 hi.1 ⟨by omega, by omega⟩, if_neg (by omega), if_neg (by omega), if_neg (by omega), if_pos (by omega)]
  have n1 : dF (dtF f m d k t rm) m d 1 = t := by
    unfold dF; rw [dt_oF hi.1 hd6 hi.1 ⟨by omega, by omega⟩, if_neg (by omega), if_neg (by omega), if_pos (by omega)]
  have n2 : dF (dtF f m d k t rm) m d 2 = 0 := by
    unfold dF; rw [dt_oF hi.1 hd6 hi.1 ⟨by omega, by omega⟩, if_neg (by omega), if_pos (by omega)]
  have n3 : dF (dtF f m d k t rm) m d 3 = rm := by
    unfold dF; rw [dt_oF hi.1 hd6 hi.1 ⟨by omega, by omega⟩, if_pos (by omega)]
  have hex : ∀ m' p : Int, 0 ≤ m' → 0 ≤ p → p < 6 → (exF (dtF f m d k t rm) m' p ↔ exF f m' p) := fun m' p a1 a2 a3 => by
    unfold exF; rw [ro m' 1 a1 (by decide) (by decide), ro m' (4 + p) a1 (by omega) (by omega)]
  have hin : ∀ m' d' : Int, inP (dtF f m d k t rm) m' d' → inP f m' d' ∧ d' < 6 := fun m' d' z => by
    have z0 := z.1
    have z1 := z.2.1
    have z2 := z.2.2.1
    have z3 := z.2.2.2
    rw [lo 1 (by decide)] at z1
    rw [ro m' 3 z0 (by decide) (by decide)] at z3
    have := kWf_m hW z0 z1
    exact ⟨⟨z0, z1, z2, z3⟩, by omega⟩
  refine wf_add hW (fun m' d' => m' = m ∧ d' = d) (by rw [lo 0 (by decide)]; exact kWf_gap hW) (by rw [lo 1 (by decide)]; exact h8) (by rw [lo 2 (by decide)]; exact kWf_nxt hW) (by rw [lo 3 (by decide)]; exact kWf_rsn hW) (by rw [lo 4 (by decide)]; exact kWf_dtl hW) (fun r r0 r1 => by rw [lo _ (by omega), lo _ (by omega)]; exact kWf_room hW r0 r1) ?_ ?_ ?_ ?_ ?_ ?_ ?_
  · intro m' a0 a1
    rw [lo 1 (by decide)] at a1
    rw [ro m' 0 a0 (by decide) (by decide), ro m' 1 a0 (by decide) (by decide), ro m' 2 a0 (by decide) (by decide), ro m' 3 a0 (by decide) (by decide), lo 2 (by decide)]
    exact kWf_m hW a0 a1
  · intro m' p a0 a1 p0 p1
    rw [lo 1 (by decide)] at a1
    rw [ro m' (4 + p) a0 (by omega) (by omega), ro m' 1 a0 (by decide) (by decide)]
    exact kWf_p hW a0 a1 p0 p1
  · intro m' m'' a0 a1 a2
    rw [lo 1 (by decide)] at a2
    rw [ro m' 0 a0 (by decide) (by decide), ro m'' 0 (by omega) (by decide) (by decide)]
    exact kWf_inc hW a0 a1 a2
  · intro m' d' z c
    obtain ⟨z1, z2⟩ := hin m' d' z
    exact ⟨z1, fun w w0 w1 => rd m' d' w z1.1 z1.2.2.1 z2 w0 w1 c, ro m' 2 z1.1 (by decide) (by decide), fun p p0 p1 => hex m' p z1.1 p0 p1⟩
  · rintro m' d' z ⟨rfl, rfl⟩
    rw [n0, n1, n2, n3, ro m' 2 hi.1 (by decide) (by decide)]
    omega
  · rintro m' d' m'' d'' z ⟨rfl, rfl⟩ y1 y2 y3 y4 y5 y6 y7
    rw [n0] at y5
    rw [n1, ro m' 2 hi.1 (by decide) (by decide)] at y6
    rw [n1] at y7
    rw [n3]
    obtain ⟨u1, u2⟩ := fit_ov hW (by omega) hfit y1 y4 y5 y3 y6 y7
    exact ⟨u1, fun p hp e => u2 p hp ⟨e.1, (ppF_bit hp).mpr ((hex m' _ hi.1 (by omega) (by omega)).mp e.2)⟩⟩
  · rintro m' d' m'' d'' z ⟨rfl, rfl⟩ y ⟨rfl, rfl⟩ hne
    exact absurd ⟨rfl, rfl⟩ hne
theorem wf_move {f : Nat → Int} (hW : kWf f) (n d k t : Int) : kWf (Tmove f n d k t).2.2 := by
  unfold Tmove
  have hat := atF_r (n := n) (kWf_cnt hW).1
  have h8 := kWf_cnt hW
  by_cases c1 : atF f n < 0
  · rw [kI_t c1]; exact hW
  · rw [kI_f c1]
    by_cases c2 : 0 ≤ d ∧ d < oF f (atF f n) 3
    · rw [kI_t c2]
      have g := kWf_m hW (m := atF f n) (by omega) (by omega)
      by_cases c3 : 0 ≤ k ∧ k ≤ 27 ∧ 0 ≤ t ∧ t ≤ 15 ∧ t + oF f (atF f n) 2 ≤ 16
      · rw [kI_t c3]
        have r1 := bsyF_r f (atF f n) d (ppF f (atF f n)) k t (oF f (atF f n) 2)
        by_cases c4 : 0 ≤ bsyF f (atF f n) d (ppF f (atF f n)) k t (oF f (atF f n) 2)
        · rw [kI_t c4]; exact wf_rf hW (by decide) (by omega)
        · rw [kI_f c4]
          by_cases c5 : smlF f (atF f n) d (ppF f (atF f n)) k t (oF f (atF f n) 2) < 0
          · rw [kI_t c5]; exact wf_rf hW (by decide) (by omega)
          · rw [kI_f c5]
            exact wf_mv hW ⟨by omega, by omega, by omega, by omega⟩ ⟨by omega, by omega⟩ ⟨by omega, by omega⟩ (by omega)
      · rw [kI_f c3]; exact hW
    · rw [kI_f c2]; exact hW
