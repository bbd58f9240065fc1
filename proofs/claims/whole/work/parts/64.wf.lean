/-! ===== kept: ask, extend ===== -/
section KAK
variable {f : Nat → Int} {host k t n rm : Int} {q : Nat}
theorem as_lo (h : 0 ≤ f 1) {j : Nat} (hj : j < 20) : askF f host q k t n rm j = if j = 2 then f 2 + 1 else if j = 1 then f 1 + 1 else f j := by
  have lo : ∀ i : Nat, i < 20 → dtF (anF (lyF (lyF (lyF (lyF f (f 1) 0 (f 2)) (f 1) 1 host) (f 1) 2 n) (f 1) 3 1) (f 1) host q 6) (f 1) 0 k t rm i = f i := fun i hi => by
    rw [dt_lo h (by decide) hi, an_lo h hi, ly_lo h (by decide) hi, ly_lo h (by decide) hi, ly_lo h (by decide) hi, ly_lo h (by decide) hi]
  show kiu (kiu _ 1 _) 2 (kiu _ 1 _ 2 + 1) j = _
  by_cases c2 : j = 2
  · subst c2
    rw [ki_eq, ki_ne (by decide), lo 2 (by decide), if_pos rfl]
  · rw [ki_ne c2, if_neg c2]
    by_cases c1 : j = 1
    · subst c1
      rw [ki_eq, lo 1 (by decide), if_pos rfl]
    · rw [ki_ne c1, if_neg c1, lo j hj]
theorem as_r (h : 0 ≤ f 1) {m w : Int} (h0 : 0 ≤ m) (hw : 0 ≤ w ∧ w < 40) : oF (askF f host q k t n rm) m w = oF (dtF (anF (lyF (lyF (lyF (lyF f (f 1) 0 (f 2)) (f 1) 1 host) (f 1) 2 n) (f 1) 3 1) (f 1) host q 6) (f 1) 0 k t rm) m w := by
  show oF (kiu (kiu _ 1 _) 2 _) m w = _
  rw [ki_oF (by decide) h0 hw.1, ki_oF (by decide) h0 hw.1]
theorem as_ne (h : 0 ≤ f 1) {m w : Int} (h0 : 0 ≤ m) (hw : 0 ≤ w ∧ w < 40) (hne : m ≠ f 1) : oF (askF f host q k t n rm) m w = oF f m w := by
  rw [as_r h h0 hw, dt_oF h (by decide) h0 hw, if_neg (by omega), if_neg (by omega), if_neg (by omega), if_neg (by omega), an_oF h (by decide) h0 hw (by omega), oF_ly h (by decide) h0 hw, if_neg (by omega), oF_ly h (by decide) h0 hw, if_neg (by omega), oF_ly h (by decide) h0 hw, if_neg (by omega), oF_ly h (by decide) h0 hw, if_neg (by omega)]
theorem as_4 (h : 0 ≤ f 1) : oF (askF f host q k t n rm) (f 1) 0 = f 2 ∧ oF (askF f host q k t n rm) (f 1) 1 = host ∧ oF (askF f host q k t n rm) (f 1) 2 = n ∧ oF (askF f host q k t n rm) (f 1) 3 = 1 := by
  refine ⟨?_, ?_, ?_, ?_⟩
  · rw [as_r h h (by decide), dt_oF h (by decide) h (by decide), if_neg (by omega), if_neg (by omega), if_neg (by omega), if_neg (by omega), an_oF h (by decide) h (by decide) (by omega), oF_ly h (by decide) h (by decide), if_neg (by omega), oF_ly h (by decide) h (by decide), if_neg (by omega), oF_ly h (by decide) h (by decide), if_neg (by omega), oF_ly h (by decide) h (by decide), if_pos ⟨rfl, rfl⟩]
  · rw [as_r h h (by decide), dt_oF h (by decide) h (by decide), if_neg (by omega), if_neg (by omega), if_neg (by omega), if_neg (by omega), an_oF h (by decide) h (by decide) (by omega), oF_ly h (by decide) h (by decide), if_neg (by omega), oF_ly h (by decide) h (by decide), if_neg (by omega), oF_ly h (by decide) h (by decide), if_pos ⟨rfl, rfl⟩]
  · rw [as_r h h (by decide), dt_oF h (by decide) h (by decide), if_neg (by omega), if_neg (by omega), if_neg (by omega), if_neg (by omega), an_oF h (by decide) h (by decide) (by omega), oF_ly h (by decide) h (by decide), if_neg (by omega), oF_ly h (by decide) h (by decide), if_pos ⟨rfl, rfl⟩]
  · rw [as_r h h (by decide), dt_oF h (by decide) h (by decide), if_neg (by omega), if_neg (by omega), if_neg (by omega), if_neg (by omega), an_oF h (by decide) h (by decide) (by omega), oF_ly h (by decide) h (by decide), if_pos ⟨rfl, rfl⟩]
theorem as_an (h : 0 ≤ f 1) {p : Nat} (hp : p < 6) : oF (askF f host q k t n rm) (f 1) (4 + (p : Int)) = kI ((p : Int) ≠ host ∧ q.testBit p = true) 111 45 := by
  rw [as_r h h (by omega), dt_oF h (by decide) h (by omega), if_neg (by omega), if_neg (by omega), if_neg (by omega), if_neg (by omega), an_ans h (by decide) hp]
theorem as_dt (h : 0 ≤ f 1) : dF (askF f host q k t n rm) (f 1) 0 0 = k ∧ dF (askF f host q k t n rm) (f 1) 0 1 = t ∧ dF (askF f host q k t n rm) (f 1) 0 2 = 0 ∧ dF (askF f host q k t n rm) (f 1) 0 3 = rm := by
  refine ⟨?_, ?_, ?_, ?_⟩ <;> unfold dF <;> rw [as_r h h (by decide), dt_oF h (by decide) h (by decide)]
  · rw [if_neg (by omega), if_neg (by omega), if_neg (by omega), if_pos ⟨rfl, rfl⟩]
  · rw [if_neg (by omega), if_neg (by omega), if_pos ⟨rfl, rfl⟩]
  · rw [if_neg (by omega), if_pos ⟨rfl, rfl⟩]
  · rw [if_pos ⟨rfl, rfl⟩]
theorem as_ex (h : 0 ≤ f 1) (hh : 0 ≤ host ∧ host < 6) {p : Nat} (hp : p < 6) : exF (askF f host q k t n rm) (f 1) (p : Int) ↔ (q ||| 2 ^ host.toNat).testBit p = true := by
  unfold exF
  rw [(as_4 h).2.1, as_an h hp, Nat.testBit_or, Bool.or_eq_true, Nat.testBit_two_pow, decide_eq_true_eq]
  by_cases c : (p : Int) ≠ host ∧ q.testBit p = true
  · rw [kI_t c]
    exact ⟨fun _ => Or.inl c.2, fun _ => Or.inr (Or.inl rfl)⟩
  · rw [kI_f c]
    by_cases e : (p : Int) = host
    · exact ⟨fun _ => Or.inr (by omega), fun _ => Or.inl e⟩
    · refine ⟨fun z => ?_, fun z => ?_⟩
      · rcases z with z | z | z <;> omega
      · rcases z with z | z
        · exact absurd ⟨e, z⟩ c
        · omega
theorem wf_as (hW : kWf f) (hc : f 1 < 8) (hnx : f 2 < 1000000) (hh : 0 ≤ host ∧ host < 6) (hk : 0 ≤ k ∧ k < 28) (ht : 0 ≤ t ∧ t + n ≤ 16) (hn : 1 ≤ n ∧ n ≤ 6) (hs : 0 ≤ smlF f (-1) (-1) (q ||| 2 ^ host.toNat) k t n) : kWf (askF f host q k t n (smlF f (-1) (-1) (q ||| 2 ^ host.toNat) k t n)) := by
  have hfit : fitF f (-1) (-1) (smlF f (-1) (-1) (q ||| 2 ^ host.toNat) k t n) (q ||| 2 ^ host.toNat) k t n := sml_P (i := 4) hs
  have hsr := smlF_r f (-1) (-1) (q ||| 2 ^ host.toNat) k t n
  generalize hrm : smlF f (-1) (-1) (q ||| 2 ^ host.toNat) k t n = rm at *
  have h8 := kWf_cnt hW
  have h9 := kWf_nxt hW
  have h1 := h8.1
  have l1 : askF f host q k t n rm 1 = f 1 + 1 := by rw [as_lo h1 (by decide)]; rfl
  have l2 : askF f host q k t n rm 2 = f 2 + 1 := by rw [as_lo h1 (by decide)]; rfl
  have lo : ∀ j : Nat, j < 20 → j ≠ 1 → j ≠ 2 → askF f host q k t n rm j = f j := fun j hj c1 c2 => by rw [as_lo h1 hj, if_neg c2, if_neg c1]
  have ro : ∀ m w : Int, 0 ≤ m → 0 ≤ w → w < 40 → m ≠ f 1 → oF (askF f host q k t n rm) m w = oF f m w := fun m w a1 a2 a3 a4 => as_ne h1 a1 ⟨a2, a3⟩ a4
  obtain ⟨a0, a1, a2, a3⟩ := as_4 (f := f) (host := host) (q := q) (k := k) (t := t) (n := n) (rm := rm) h1
  obtain ⟨d0, d1, d2, d3⟩ := as_dt (f := f) (host := host) (q := q) (k := k) (t := t) (n := n) (rm := rm) h1
  have hex : ∀ m p : Int, 0 ≤ m → m ≠ f 1 → 0 ≤ p → p < 6 → (exF (askF f host q k t n rm) m p ↔ exF f m p) := fun m p b1 b2 b3 b4 => by
    unfold exF; rw [ro m 1 b1 (by decide) (by decide) b2, ro m (4 + p) b1 (by omega) (by omega) b2]
  refine wf_add hW (fun m _ => m = f 1) (by rw [lo 0 (by decide) (by decide) (by decide)]; exact kWf_gap hW) (by rw [l1]; omega) (by rw [l2]; omega) (by rw [lo 3 (by decide) (by decide) (by decide)]; exact kWf_rsn hW) (by rw [lo 4 (by decide) (by decide) (by decide)]; exact kWf_dtl hW) (fun r r0 r1 => by rw [lo _ (by omega) (by omega) (by omega), lo _ (by omega) (by omega) (by omega)]; exact kWf_room hW r0 r1) ?_ ?_ ?_ ?_ ?_ ?_ ?_
  · intro m b0 b1
    rw [l1] at b1
    rw [l2]
    by_cases c : m = f 1
    · subst c; rw [a0, a1, a2, a3]; omega
    · rw [ro m 0 b0 (by decide) (by decide) c, ro m 1 b0 (by decide) (by decide) c, ro m 2 b0 (by decide) (by decide) c, ro m 3 b0 (by decide) (by decide) c]
      have := kWf_m hW b0 (show m < f 1 by omega)
      omega
  · intro m p b0 b1 p0 p1
    rw [l1] at b1
    by_cases c : m = f 1
    · subst c
      obtain ⟨i, rfl⟩ := Int.eq_ofNat_of_zero_le p0
      rw [as_an h1 (by omega), a1]
      by_cases c2 : (i : Int) ≠ host ∧ q.testBit i = true
      · rw [kI_t c2]; exact ⟨Or.inr (Or.inl rfl), fun e => absurd e c2.1⟩
      · rw [kI_f c2]; exact ⟨Or.inl rfl, fun _ => rfl⟩
    · rw [ro m (4 + p) b0 (by omega) (by omega) c, ro m 1 b0 (by decide) (by decide) c]
      exact kWf_p hW b0 (by omega) p0 p1
  · intro m m' b0 b1 b2
    rw [l1] at b2
    rw [ro m 0 b0 (by decide) (by decide) (by omega)]
    by_cases c : m' = f 1
    · subst c; rw [a0]; exact (kWf_m hW b0 b1).2.1
    · rw [ro m' 0 (by omega) (by decide) (by decide) c]; exact kWf_inc hW b0 b1 (by omega)
  · intro m d z c
    have z0 := z.1
    have z1 := z.2.1
    have z2 := z.2.2.1
    have z3 := z.2.2.2
    rw [l1] at z1
    rw [ro m 3 z0 (by decide) (by decide) c] at z3
    have g := kWf_m hW z0 (show m < f 1 by omega)
    exact ⟨⟨z0, by omega, z2, z3⟩, fun w w0 w1 => ro m _ z0 (by omega) (by omega) c, ro m 2 z0 (by decide) (by decide) c, fun p p0 p1 => hex m p z0 c p0 p1⟩
  · rintro m d z rfl
    have z3 := z.2.2.2
    rw [a3] at z3
    have e : d = 0 := by have := z.2.2.1; omega
    subst e
    rw [d0, d1, d2, d3, a2]
    omega
  · rintro m d m' d' z rfl y1 y2 y3 y4 y5 y6 y7
    have z3 := z.2.2.2
    rw [a3] at z3
    have e : d = 0 := by have := z.2.2.1; omega
    subst e
    rw [d0] at y5
    rw [d1, a2] at y6
    rw [d1] at y7
    rw [d3]
    obtain ⟨u1, u2⟩ := fit_ov hW hn.1 hfit y1 y4 y5 (fun e => absurd y1.1 (by omega)) y6 y7
    exact ⟨u1, fun p hp e => u2 p hp ⟨e.1, (as_ex h1 hh hp).mp e.2⟩⟩
  · rintro m d m' d' z rfl y rfl hne
    have z3 := z.2.2.2
    have y3 := y.2.2.2
    rw [a3] at z3 y3
    exact absurd ⟨rfl, by have := z.2.2.1; have := y.2.2.1; omega⟩ hne
end KAK
theorem wf_ask {f : Nat → Int} (hW : kWf f) (hnx : f 2 < 1000000) (host a k t n : Int) : kWf (Task f host a k t n).2.2 := by
  unfold Task
  have h8 := kWf_cnt hW
  by_cases c1 : 0 ≤ host ∧ host ≤ 5 ∧ 0 ≤ a ∧ a ≤ 63 ∧ 0 ≤ k ∧ k ≤ 27 ∧ 0 ≤ t ∧ t ≤ 15 ∧ 1 ≤ n ∧ n ≤ 6 ∧ t + n ≤ 16
  · rw [kI_t c1]
    by_cases c2 : f 1 = 8
    · rw [kI_t c2]; exact hW
    · rw [kI_f c2]
      have r1 := bsyF_r f (-1) (-1) (a.toNat ||| 2 ^ host.toNat) k t n
      by_cases c3 : 0 ≤ bsyF f (-1) (-1) (a.toNat ||| 2 ^ host.toNat) k t n
      · rw [kI_t c3]; exact wf_rf hW (by decide) (by omega)
      · rw [kI_f c3]
        by_cases c4 : smlF f (-1) (-1) (a.toNat ||| 2 ^ host.toNat) k t n < 0
        · rw [kI_t c4]; exact wf_rf hW (by decide) (by decide)
        · rw [kI_f c4]
          exact wf_as hW (by omega) hnx ⟨by omega, by omega⟩ ⟨by omega, by omega⟩ ⟨by omega, by omega⟩ ⟨by omega, by omega⟩ (by omega)
  · rw [kI_f c1]; exact hW
