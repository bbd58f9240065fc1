/-! ===== kept: remove, cancel ===== -/
theorem wf_map {f f' : Nat → Int} (μ : Int → Int) (hW : kWf f) (h0 : 0 ≤ f' 0 ∧ f' 0 ≤ 3) (h1 : 0 ≤ f' 1 ∧ f' 1 ≤ 8) (h2 : f' 2 = f 2) (h3 : 0 ≤ f' 3 ∧ f' 3 ≤ 4) (h4 : 0 ≤ f' 4 ∧ f' 4 ≤ 6)
    (hr : ∀ r : Int, 0 ≤ r → r < 4 → 0 ≤ f' (5 + r).toNat ∧ f' (5 + r).toNat ≤ 6 ∧ 0 ≤ f' (9 + r).toNat ∧ f' (9 + r).toNat ≤ 1)
    (hμ : ∀ m : Int, 0 ≤ m → m < f' 1 → 0 ≤ μ m ∧ μ m < f 1) (hmo : ∀ m m' : Int, 0 ≤ m → m < m' → m' < f' 1 → μ m < μ m')
    (hm : ∀ m w : Int, 0 ≤ m → m < f' 1 → 0 ≤ w → w < 40 → oF f' m w = oF f (μ m) w ∨ ((∃ d : Int, 0 ≤ d ∧ w = 10 + 4 * d + 2) ∧ oF f' m w = 1)) : kWf f' := by
  obtain ⟨-, b, c, -, -, -, g, i, j, k, l⟩ := hW
  have he : ∀ m w : Int, 0 ≤ m → m < f' 1 → 0 ≤ w → w < 40 → ¬ (12 ≤ w ∧ w % 4 = 0) → oF f' m w = oF f (μ m) w := by
    intro m w m0 m1 w0 w1 hw
    rcases hm m w m0 m1 w0 w1 with z | ⟨⟨d, d0, z⟩, -⟩
    · exact z
    · omega
  have inj : ∀ m m' : Int, 0 ≤ m → m < f' 1 → 0 ≤ m' → m' < f' 1 → μ m = μ m' → m = m' := by
    intro m m' a1 a2 a3 a4 e
    rcases Int.lt_trichotomy m m' with z | z | z
    · have := hmo m m' a1 z a4; omega
    · exact z
    · have := hmo m' m a3 z a2; omega
  have hmany : ∀ m : Int, 0 ≤ m → m < f' 1 → oF f' m 3 = oF f (μ m) 3 ∧ oF f (μ m) 3 ≤ 6 := fun m m0 m1 => ⟨he m 3 m0 m1 (by decide) (by decide) (by decide), by have := g _ (hμ m m0 m1).1 (hμ m m0 m1).2; omega⟩
  have hdt : ∀ m d w : Int, 0 ≤ m → m < f' 1 → 0 ≤ d → d < oF f' m 3 → (w = 0 ∨ w = 1 ∨ w = 3) → dF f' m d w = dF f (μ m) d w := by
    intro m d w m0 m1 d0 d1 hw
    have z := hmany m m0 m1
    exact he m _ m0 m1 (by omega) (by omega) (by omega)
  have hon : ∀ m d : Int, 0 ≤ m → m < f' 1 → 0 ≤ d → d < oF f' m 3 → onF f' m d → onF f (μ m) d := by
    intro m d m0 m1 d0 d1 ho
    have z := hmany m m0 m1
    unfold onF dF at ho ⊢
    rcases hm m (10 + 4 * d + 2) m0 m1 (by omega) (by omega) with y | ⟨-, y⟩
    · rw [← y]; exact ho
    · omega
  have hex : ∀ m p : Int, 0 ≤ m → m < f' 1 → 0 ≤ p → p < 6 → (exF f' m p ↔ exF f (μ m) p) := by
    intro m p m0 m1 p0 p1
    unfold exF
    rw [he m 1 m0 m1 (by decide) (by decide) (by decide), he m (4 + p) m0 m1 (by omega) (by omega) (by omega)]
  refine ⟨h0, h1, by rw [h2]; exact c, h3, h4, hr, ?_, ?_, ?_, ?_, ?_⟩
  · intro m m0 m1
    rw [he m 0 m0 m1 (by decide) (by decide) (by decide), he m 1 m0 m1 (by decide) (by decide) (by decide), he m 2 m0 m1 (by decide) (by decide) (by decide), he m 3 m0 m1 (by decide) (by decide) (by decide), h2]
    exact g _ (hμ m m0 m1).1 (hμ m m0 m1).2
  · intro m p m0 m1 p0 p1
    rw [he m (4 + p) m0 m1 (by omega) (by omega) (by omega), he m 1 m0 m1 (by decide) (by decide) (by decide)]
    exact i _ p (hμ m m0 m1).1 (hμ m m0 m1).2 p0 p1
  · intro m d m0 m1 d0 d1
    have z := hmany m m0 m1
    have y := j (μ m) d (hμ m m0 m1).1 (hμ m m0 m1).2 d0 (by omega)
    have u : 0 ≤ dF f' m d 2 ∧ dF f' m d 2 ≤ 1 := by
      unfold dF at y ⊢
      rcases hm m (10 + 4 * d + 2) m0 m1 (by omega) (by omega) with x | ⟨-, x⟩ <;> omega
    rw [hdt m d 0 m0 m1 d0 d1 (Or.inl rfl), hdt m d 1 m0 m1 d0 d1 (Or.inr (Or.inl rfl)), hdt m d 3 m0 m1 d0 d1 (Or.inr (Or.inr rfl)), he m 2 m0 m1 (by decide) (by decide) (by decide)]
    omega
  · intro m m' m0 m1 m2
    rw [he m 0 m0 (by omega) (by decide) (by decide) (by decide), he m' 0 (by omega) m2 (by decide) (by decide) (by decide)]
    exact k _ _ (hμ m m0 (by omega)).1 (hmo m m' m0 m1 m2) (hμ m' (by omega) m2).2
  · intro m d m' d' m0 m1 d0 d1 m0' m1' d0' d1' hne o1 o2 hk t1 t2
    have z := hmany m m0 m1
    have z' := hmany m' m0' m1'
    rw [hdt m d 0 m0 m1 d0 d1 (Or.inl rfl), hdt m' d' 0 m0' m1' d0' d1' (Or.inl rfl)] at hk
    rw [hdt m d 1 m0 m1 d0 d1 (Or.inr (Or.inl rfl)), hdt m' d' 1 m0' m1' d0' d1' (Or.inr (Or.inl rfl)), he m' 2 m0' m1' (by decide) (by decide) (by decide)] at t1
    rw [hdt m' d' 1 m0' m1' d0' d1' (Or.inr (Or.inl rfl)), hdt m d 1 m0 m1 d0 d1 (Or.inr (Or.inl rfl)), he m 2 m0 m1 (by decide) (by decide) (by decide)] at t2
    rw [hdt m d 3 m0 m1 d0 d1 (Or.inr (Or.inr rfl)), hdt m' d' 3 m0' m1' d0' d1' (Or.inr (Or.inr rfl))]
    obtain ⟨u1, u2⟩ := l (μ m) d (μ m') d' (hμ m m0 m1).1 (hμ m m0 m1).2 d0 (by omega) (hμ m' m0' m1').1 (hμ m' m0' m1').2 d0' (by omega) (fun q => hne ⟨inj m m' m0 m1 m0' m1' q.1, q.2⟩) (hon m d m0 m1 d0 d1 o1) (hon m' d' m0' m1' d0' d1' o2) hk t1 t2
    exact ⟨u1, fun p p0 p1 => by rw [hex m p m0 m1 p0 p1, hex m' p m0' m1' p0 p1]; exact u2 p p0 p1⟩
theorem wf_cancel {f : Nat → Int} (hW : kWf f) (n d : Int) : kWf (Tcancel f n d).2.2 := by
  unfold Tcancel
  have hat := atF_r (n := n) (kWf_cnt hW).1
  have h8 := kWf_cnt hW
  by_cases c1 : atF f n < 0
  · rw [kI_t c1]; exact hW
  · rw [kI_f c1]
    by_cases c2 : 0 ≤ d ∧ d < oF f (atF f n) 3
    · rw [kI_t c2]
      by_cases c3 : onF f (atF f n) d
      · rw [kI_t c3]
        have g := kWf_m hW (m := atF f n) (by omega) (by omega)
        have lo : ∀ j : Nat, j < 20 → (lyF f (atF f n) (10 + 4 * d + 2) 1) j = f j := fun j hj => ly_lo (by omega) (by omega) hj
        show kWf (lyF f (atF f n) (10 + 4 * d + 2) 1)
        refine wf_map id hW ?_ ?_ ?_ ?_ ?_ (fun r r0 r1 => ?_) (fun m m0 m1 => ?_) (fun m m' _ z _ => z) (fun m w m0 m1 w0 w1 => ?_)
        · rw [lo 0 (by decide)]; exact kWf_gap hW
        · rw [lo 1 (by decide)]; exact h8
        · rw [lo 2 (by decide)]
        · rw [lo 3 (by decide)]; exact kWf_rsn hW
        · rw [lo 4 (by decide)]; exact kWf_dtl hW
        · rw [lo _ (by omega), lo _ (by omega)]; exact kWf_room hW r0 r1
        · rw [lo 1 (by decide)] at m1; exact ⟨m0, m1⟩
        · rw [oF_ly (by omega) (by omega) m0 (by omega)]
          by_cases z : m = atF f n ∧ w = 10 + 4 * d + 2
          · rw [if_pos z]; exact Or.inr ⟨⟨d, by omega, z.2⟩, rfl⟩
          · rw [if_neg z]; exact Or.inl rfl
      · rw [kI_f c3]; exact hW
    · rw [kI_f c2]; exact hW
theorem sh_at2 {f : Nat → Int} {a i j : Nat} : shF f a i (a + j) = if j < i then f (a + j + 40) else f (a + j) := by
  induction i generalizing j with
  | zero => rfl
  | succ i ih =>
    rw [shF]
    unfold kiu
    by_cases c : a + j = a + i
    · have e : j = i := by omega
      subst e
      rw [if_pos rfl, if_pos (by omega), show a + j + 40 = a + (j + 40) by omega, ih, if_neg (by omega)]
    · rw [if_neg c, ih]
      by_cases c2 : j < i
      · rw [if_pos c2, if_pos (by omega)]
      · rw [if_neg c2, if_neg (by omega)]
theorem rv_oF {f : Nat → Int} {p m w : Int} (hp : 0 ≤ p ∧ p < f 1) (h8 : f 1 ≤ 8) (h0 : 0 ≤ m) (h1 : m < f 1 - 1) (hw : 0 ≤ w ∧ w < 40) : oF (rvF f p) m w = oF f (if m < p then m else m + 1) w := by
  unfold rvF oF
  by_cases c : m < p
  · rw [if_pos c, sh_lo (by omega), ki_ne (by omega)]
  · rw [if_neg c]
    have e : (20 + 40 * m + w).toNat = (20 + 40 * p).toNat + (40 * (m - p) + w).toNat := by omega
    rw [e, sh_at2, if_pos (by omega), ki_ne (by omega)]
    congr 1
    omega
theorem rv_lo {f : Nat → Int} {p : Int} (hp : 0 ≤ p) {j : Nat} (hj : j < 20) : rvF f p j = if j = 1 then f 1 - 1 else f j := by
  unfold rvF
  rw [sh_lo (by omega)]
  rfl
theorem wf_remove {f : Nat → Int} (hW : kWf f) (n : Int) : kWf (Tremove f n).2.2 := by
  unfold Tremove
  have hat := atF_r (n := n) (kWf_cnt hW).1
  have h8 := kWf_cnt hW
  by_cases c1 : atF f n < 0
  · rw [kI_t c1]; exact hW
  · rw [kI_f c1]
    show kWf (rvF f (atF f n))
    have lo : ∀ j : Nat, j < 20 → rvF f (atF f n) j = if j = 1 then f 1 - 1 else f j := fun j hj => rv_lo (by omega) hj
    have l1 : rvF f (atF f n) 1 = f 1 - 1 := lo 1 (by decide)
    refine wf_map (fun m => if m < atF f n then m else m + 1) hW ?_ ?_ ?_ ?_ ?_ (fun r r0 r1 => ?_) (fun m m0 m1 => ?_) (fun m m' m0 z m1 => ?_) (fun m w m0 m1 w0 w1 => ?_)
    · rw [lo 0 (by decide)]; exact kWf_gap hW
    · rw [l1]; omega
    · rw [lo 2 (by decide)]; rfl
    · rw [lo 3 (by decide)]; exact kWf_rsn hW
    · rw [lo 4 (by decide)]; exact kWf_dtl hW
    · rw [lo _ (by omega), lo _ (by omega), if_neg (by omega), if_neg (by omega)]; exact kWf_room hW r0 r1
    · rw [l1] at m1
      show 0 ≤ (if m < atF f n then m else m + 1) ∧ (if m < atF f n then m else m + 1) < f 1
      split <;> omega
    · show (if m < atF f n then m else m + 1) < (if m' < atF f n then m' else m' + 1)
      split <;> split <;> omega
    · rw [l1] at m1
      exact Or.inl (rv_oF (by omega) h8.2 m0 m1 ⟨w0, w1⟩)
