/-! ===== kept: answer, move ===== -/
theorem fit_ov {f : Nat → Int} {wm wd rm : Int} {q : Nat} {k t n : Int} (hW : kWf f) (hn : 1 ≤ n) (z : fitF f wm wd rm q k t n) {m d : Int} (hi : inP f m d) (ho : onF f m d) (hk : dF f m d 0 = k) (hne : ¬(m = wm ∧ d = wd)) (t1 : dF f m d 1 < t + n) (t2 : t < dF f m d 1 + oF f m 2) : dF f m d 3 ≠ rm ∧ ∀ p : Nat, p < 6 → ¬ (exF f m (p : Int) ∧ q.testBit p = true) := by
  have g := kWf_m hW hi.1 hi.2.1
  have b : btF f m d t n < 0 := btF_neg.mpr (by omega)
  have y := z.2 m d hi
  exact ⟨fun e => y ⟨⟨ho, hk, hne⟩, Or.inl ⟨e, b⟩⟩, fun p hp e => y ⟨⟨ho, hk, hne⟩, Or.inr ⟨⟨p, hp, e.1, e.2⟩, Or.inl b⟩⟩⟩
theorem wf_ans {f : Nat → Int} (hW : kWf f) {m p a : Int} (hm : 0 ≤ m ∧ m < f 1) (hp : 0 ≤ p ∧ p < 6) (ha : a = 121 ∨ a = 110 ∨ a = 111) (hold : oF f m (4 + p) ≠ 45) (hcl : oF f m (4 + p) = 110 → a ≠ 110 → ∀ d : Int, 0 ≤ d → d < oF f m 3 → onF f m d → ¬ clF f m d p) : kWf (lyF f m (4 + p) a) := by
  have lo : ∀ j : Nat, j < 20 → (lyF f m (4 + p) a) j = f j := fun j hj => ly_lo hm.1 (by omega) hj
  have h8 := kWf_cnt hW
  have ro : ∀ m' w : Int, 0 ≤ m' → 0 ≤ w → w < 40 → oF (lyF f m (4 + p) a) m' w = if m' = m ∧ w = 4 + p then a else oF f m' w := fun m' w a1 a2 a3 => oF_ly hm.1 (by omega) a1 ⟨a2, a3⟩
  have ro2 : ∀ m' w : Int, 0 ≤ m' → 0 ≤ w → w < 40 → (w < 4 ∨ 10 ≤ w) → oF (lyF f m (4 + p) a) m' w = oF f m' w := fun m' w a1 a2 a3 a4 => by rw [ro m' w a1 a2 a3, if_neg (by omega)]
  have hph : p ≠ oF f m 1 := fun e => hold ((kWf_p hW hm.1 hm.2 hp.1 hp.2).2 e)
  have hex : ∀ m' p' : Int, 0 ≤ m' → 0 ≤ p' → p' < 6 → ¬ (m' = m ∧ p' = p) → (exF (lyF f m (4 + p) a) m' p' ↔ exF f m' p') := fun m' p' a1 a2 a3 a4 => by
    unfold exF
    rw [ro2 m' 1 a1 (by decide) (by decide) (by decide), ro m' (4 + p') a1 (by omega) (by omega), if_neg (by omega)]
  have hexp : exF (lyF f m (4 + p) a) m p ↔ a ≠ 110 := by
    unfold exF
    rw [ro2 m 1 hm.1 (by decide) (by decide) (by decide), ro m (4 + p) hm.1 (by omega) (by omega), if_pos ⟨rfl, rfl⟩]
    omega
  have hexo : exF f m p ↔ oF f m (4 + p) ≠ 110 := by
    have := (kWf_p hW hm.1 hm.2 hp.1 hp.2).1
    unfold exF
    omega
  -- p comes back to m: no other date of p, or of m, at a time of a date of m
  have key : ∀ d m' d' : Int, inP f m d → inP f m' d' → ¬(m' = m ∧ d' = d) → onF f m d → onF f m' d' → dF f m' d' 0 = dF f m d 0 → dF f m d 1 < dF f m' d' 1 + oF f m' 2 → dF f m' d' 1 < dF f m d 1 + oF f m 2 → ¬ exF f m p → a ≠ 110 → ¬ (m' = m ∨ exF f m' p) := by
    intro d m' d' hi hi' hne o1 o2 hk t1 t2 hx ha2 hc
    have g := kWf_m hW hi'.1 hi'.2.1
    have g2 := kWf_m hW hi.1 hi.2.1
    have h110 : oF f m (4 + p) = 110 := by
      by_cases c : oF f m (4 + p) = 110
      · exact c
      · exact absurd (hexo.mpr c) hx
    exact hcl h110 ha2 d hi.2.2.1 hi.2.2.2 o1 ⟨m', d', hi', hne, o2, hc, hk, Or.inl (btF_neg.mpr (by omega))⟩
  obtain ⟨-, b, c, -, -, -, g, i, j, k, l⟩ := id hW
  refine ⟨by rw [lo 0 (by decide)]; exact kWf_gap hW, by rw [lo 1 (by decide)]; exact b, by rw [lo 2 (by decide)]; exact c, by rw [lo 3 (by decide)]; exact kWf_rsn hW, by rw [lo 4 (by decide)]; exact kWf_dtl hW, fun r r0 r1 => by rw [lo _ (by omega), lo _ (by omega)]; exact kWf_room hW r0 r1, ?_, ?_, ?_, ?_, ?_⟩
  · intro m' m0 m1
    rw [lo 1 (by decide)] at m1
    rw [ro2 m' 0 m0 (by decide) (by decide) (by decide), ro2 m' 1 m0 (by decide) (by decide) (by decide), ro2 m' 2 m0 (by decide) (by decide) (by decide), ro2 m' 3 m0 (by decide) (by decide) (by decide), lo 2 (by decide)]
    exact g m' m0 m1
  · intro m' p' m0 m1 p0 p1
    rw [lo 1 (by decide)] at m1
    rw [ro m' (4 + p') m0 (by omega) (by omega), ro2 m' 1 m0 (by decide) (by decide) (by decide)]
    by_cases e : m' = m ∧ 4 + p' = 4 + p
    · rw [if_pos e]
      refine ⟨by omega, fun q => absurd ?_ hph⟩
      rw [← e.1]; omega
    · rw [if_neg e]; exact i m' p' m0 m1 p0 p1
  · intro m' d m0 m1 d0 d1
    rw [lo 1 (by decide)] at m1
    rw [ro2 m' 3 m0 (by decide) (by decide) (by decide)] at d1
    have g9 := g m' m0 m1
    unfold dF
    rw [ro2 m' _ m0 (by omega) (by omega) (by omega), ro2 m' (10 + 4 * d + 1) m0 (by omega) (by omega) (by omega), ro2 m' (10 + 4 * d + 2) m0 (by omega) (by omega) (by omega), ro2 m' (10 + 4 * d + 3) m0 (by omega) (by omega) (by omega), ro2 m' 2 m0 (by decide) (by decide) (by decide)]
    exact j m' d m0 m1 d0 d1
  · intro m' m'' m0 m1 m2
    rw [lo 1 (by decide)] at m2
    rw [ro2 m' 0 m0 (by decide) (by decide) (by decide), ro2 m'' 0 (by omega) (by decide) (by decide) (by decide)]
    exact k m' m'' m0 m1 m2
  · intro m1 d1 m2 d2 a0 a1 a2 a3 b0 b1 b2 b3 hne o1 o2 hk t1 t2
    rw [lo 1 (by decide)] at a1 b1
    rw [ro2 m1 3 a0 (by decide) (by decide) (by decide)] at a3
    rw [ro2 m2 3 b0 (by decide) (by decide) (by decide)] at b3
    have ga := g m1 a0 a1
    have gb := g m2 b0 b1
    have ea : ∀ w : Int, 0 ≤ w → w < 4 → dF (lyF f m (4 + p) a) m1 d1 w = dF f m1 d1 w := fun w w0 w1 => ro2 m1 _ a0 (by omega) (by omega) (by omega)
    have eb : ∀ w : Int, 0 ≤ w → w < 4 → dF (lyF f m (4 + p) a) m2 d2 w = dF f m2 d2 w := fun w w0 w1 => ro2 m2 _ b0 (by omega) (by omega) (by omega)
    unfold onF at o1 o2
    rw [ea 2 (by decide) (by decide)] at o1
    rw [eb 2 (by decide) (by decide)] at o2
    rw [ea 0 (by decide) (by decide), eb 0 (by decide) (by decide)] at hk
    rw [ea 1 (by decide) (by decide), eb 1 (by decide) (by decide), ro2 m2 2 b0 (by decide) (by decide) (by decide)] at t1
    rw [ea 1 (by decide) (by decide), eb 1 (by decide) (by decide), ro2 m1 2 a0 (by decide) (by decide) (by decide)] at t2
    rw [ea 3 (by decide) (by decide), eb 3 (by decide) (by decide)]
    obtain ⟨u1, u2⟩ := l m1 d1 m2 d2 a0 a1 a2 a3 b0 b1 b2 b3 hne o1 o2 hk t1 t2
    refine ⟨u1, fun q q0 q1 ⟨x1, x2⟩ => ?_⟩
    have old := u2 q q0 q1
    by_cases c1 : m1 = m ∧ q = p
    · obtain ⟨rfl, rfl⟩ := c1
      have ha2 := hexp.mp x1
      by_cases cx : exF f m1 q
      · by_cases c2 : m2 = m1
        · subst c2; exact old ⟨cx, cx⟩
        · exact old ⟨cx, (hex m2 q b0 q0 q1 (fun z => c2 z.1)).mp x2⟩
      · refine key d1 m2 d2 ⟨a0, a1, a2, a3⟩ ⟨b0, b1, b2, b3⟩ (fun z => hne ⟨z.1.symm, z.2.symm⟩) o1 o2 hk.symm t1 t2 cx ha2 ?_
        by_cases c2 : m2 = m1
        · exact Or.inl c2
        · exact Or.inr ((hex m2 q b0 q0 q1 (fun z => c2 z.1)).mp x2)
    · have y1 := (hex m1 q a0 q0 q1 c1).mp x1
      by_cases c2 : m2 = m ∧ q = p
      · obtain ⟨rfl, rfl⟩ := c2
        have ha2 := hexp.mp x2
        by_cases cx : exF f m2 q
        · exact old ⟨y1, cx⟩
        · exact key d2 m1 d1 ⟨b0, b1, b2, b3⟩ ⟨a0, a1, a2, a3⟩ hne o2 o1 hk t2 t1 cx ha2 (Or.inr y1)
      · exact old ⟨y1, (hex m2 q b0 q0 q1 c2).mp x2⟩
theorem ko3_r (f : Nat → Int) (m : Int) : ko3 f m = -1 ∨ (0 ≤ ko3 f m ∧ ko3 f m < oF f m 3) := by
  unfold ko3
  rcases kls_spec (fun d => onF f m (d : Int) ∧ f (5 + dF f m (d : Int) 3).toNat ≤ kpo (ppF f m) 6) (oF f m 3).toNat with ⟨h1, -⟩ | ⟨i, h1, h2, -⟩ <;> rw [h1] <;> omega
theorem ko4_r (f : Nat → Int) (m p : Int) : (ko4 f m p = -1 ∧ ∀ d : Int, 0 ≤ d → d < oF f m 3 → onF f m d → ¬ clF f m d p) ∨ (0 ≤ ko4 f m p ∧ ko4 f m p < oF f m 3) := by
  unfold ko4
  rcases kls_spec (fun d => onF f m (d : Int) ∧ clF f m (d : Int) p) (oF f m 3).toNat with ⟨h1, h2⟩ | ⟨i, h1, h2, -⟩
  · refine Or.inl ⟨h1, fun d d0 d1 ho hc => ?_⟩
    obtain ⟨j, rfl⟩ := Int.eq_ofNat_of_zero_le d0
    exact h2 j (by omega) ⟨ho, hc⟩
  · rw [h1]; exact Or.inr (by omega)
theorem wf_answer {f : Nat → Int} (hW : kWf f) (n p a : Int) : kWf (Tanswer f n p a).2.2 := by
  unfold Tanswer
  have hat := atF_r (n := n) (kWf_cnt hW).1
  have h8 := kWf_cnt hW
  by_cases c1 : atF f n < 0
  · rw [kI_t c1]; exact hW
  · rw [kI_f c1]
    by_cases c2 : 0 ≤ p ∧ p ≤ 5 ∧ (a = 121 ∨ a = 110 ∨ a = 111)
    · rw [kI_t c2]
      have g := kWf_m hW (m := atF f n) (by omega) (by omega)
      by_cases c3 : oF f (atF f n) (4 + p) = 45
      · rw [kI_t c3]; exact hW
      · rw [kI_f c3]
        have r3 := ko3_r f (atF f n)
        have r4 := ko4_r f (atF f n) p
        by_cases c4 : oF f (atF f n) (4 + p) = 110 ∧ a ≠ 110 ∧ 0 ≤ ko3 f (atF f n)
        · rw [kI_t c4]; exact wf_rf hW (by decide) (by omega)
        · rw [kI_f c4]
          by_cases c5 : oF f (atF f n) (4 + p) = 110 ∧ a ≠ 110 ∧ 0 ≤ ko4 f (atF f n) p
          · rw [kI_t c5]; exact wf_rf hW (by decide) (by omega)
          · rw [kI_f c5]
            refine wf_ans hW ⟨by omega, by omega⟩ ⟨by omega, by omega⟩ c2.2.2 c3 (fun h110 ha => ?_)
            rcases r4 with ⟨-, r4⟩ | r4
            · exact r4
            · exact absurd ⟨h110, ha, r4.1⟩ c5
    · rw [kI_f c2]; exact hW
