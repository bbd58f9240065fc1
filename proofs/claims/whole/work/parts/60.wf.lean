/-! ===== what stands of the row is kept by the calls ===== -/
-- the row's rooms and scalars may change; its meetings are read as before
theorem wf_cg {f f' : Nat → Int} (hW : kWf f) (h0 : 0 ≤ f' 0 ∧ f' 0 ≤ 3) (h1 : f' 1 = f 1) (h2 : f' 2 = f 2) (h3 : 0 ≤ f' 3 ∧ f' 3 ≤ 4) (h4 : 0 ≤ f' 4 ∧ f' 4 ≤ 6)
    (hr : ∀ r : Int, 0 ≤ r → r < 4 → 0 ≤ f' (5 + r).toNat ∧ f' (5 + r).toNat ≤ 6 ∧ 0 ≤ f' (9 + r).toNat ∧ f' (9 + r).toNat ≤ 1)
    (hm : ∀ m w : Int, 0 ≤ m → 0 ≤ w → oF f' m w = oF f m w) : kWf f' := by
  obtain ⟨-, b, c, -, -, -, g, i, j, k, l⟩ := hW
  have hd : ∀ m d w : Int, 0 ≤ m → 0 ≤ d → 0 ≤ w → dF f' m d w = dF f m d w := fun m d w a1 a2 a3 => hm m _ a1 (by omega)
  have ho : ∀ m d : Int, 0 ≤ m → 0 ≤ d → (onF f' m d ↔ onF f m d) := fun m d a1 a2 => by unfold onF; rw [hd m d 2 a1 a2 (by decide)]
  have he : ∀ m p : Int, 0 ≤ m → 0 ≤ p → (exF f' m p ↔ exF f m p) := fun m p a1 a2 => by unfold exF; rw [hm m 1 a1 (by decide), hm m (4 + p) a1 (by omega)]
  refine ⟨h0, by rw [h1]; exact b, by rw [h2]; exact c, h3, h4, hr, ?_, ?_, ?_, ?_, ?_⟩
  · intro m m0 m1
    rw [h1] at m1
    rw [hm m 0 m0 (by decide), hm m 1 m0 (by decide), hm m 2 m0 (by decide), hm m 3 m0 (by decide), h2]
    exact g m m0 m1
  · intro m p m0 m1 p0 p1
    rw [h1] at m1
    rw [hm m (4 + p) m0 (by omega), hm m 1 m0 (by decide)]
    exact i m p m0 m1 p0 p1
  · intro m d m0 m1 d0 d1
    rw [h1] at m1
    rw [hm m 3 m0 (by decide)] at d1
    rw [hd m d 0 m0 d0 (by decide), hd m d 1 m0 d0 (by decide), hd m d 2 m0 d0 (by decide), hd m d 3 m0 d0 (by decide), hm m 2 m0 (by decide)]
    exact j m d m0 m1 d0 d1
  · intro m m' m0 m1 m2
    rw [h1] at m2
    rw [hm m 0 m0 (by decide), hm m' 0 (by omega) (by decide)]
    exact k m m' m0 m1 m2
  · intro m d m' d' m0 m1 d0 d1 m0' m1' d0' d1' hne o1 o2 hk t1 t2
    rw [h1] at m1 m1'
    rw [hm m 3 m0 (by decide)] at d1
    rw [hm m' 3 m0' (by decide)] at d1'
    rw [ho m d m0 d0] at o1
    rw [ho m' d' m0' d0'] at o2
    rw [hd m d 0 m0 d0 (by decide), hd m' d' 0 m0' d0' (by decide)] at hk
    rw [hd m d 1 m0 d0 (by decide), hd m' d' 1 m0' d0' (by decide), hm m' 2 m0' (by decide)] at t1
    rw [hd m' d' 1 m0' d0' (by decide), hd m d 1 m0 d0 (by decide), hm m 2 m0 (by decide)] at t2
    rw [hd m d 3 m0 d0 (by decide), hd m' d' 3 m0' d0' (by decide)]
    obtain ⟨u1, u2⟩ := l m d m' d' m0 m1 d0 d1 m0' m1' d0' d1' hne o1 o2 hk t1 t2
    exact ⟨u1, fun p p0 p1 => by rw [he m p m0 p0, he m' p m0' p0]; exact u2 p p0 p1⟩
theorem ki_oFi {f : Nat → Int} {j x m w : Int} (hj : 0 ≤ j ∧ j < 20) (h0 : 0 ≤ m) (h1 : 0 ≤ w) : oF (kiu f j.toNat x) m w = oF f m w := ki_oF (by omega) h0 h1
theorem wf_rf {f : Nat → Int} (hW : kWf f) {a b : Int} (ha : 0 ≤ a ∧ a ≤ 4) (hb : 0 ≤ b ∧ b ≤ 6) : kWf (rfF f a b) := by
  unfold rfF
  refine wf_cg hW ?_ ?_ ?_ ?_ ?_ (fun r r0 r1 => ?_) (fun m w m0 w0 => ?_)
  · rw [ki_ne (by decide), ki_ne (by decide)]; exact kWf_gap hW
  · rw [ki_ne (by decide), ki_ne (by decide)]
  · rw [ki_ne (by decide), ki_ne (by decide)]
  · rw [ki_ne (by decide), ki_eq]; exact ha
  · rw [ki_eq]; exact hb
  · rw [ki_ne (by omega), ki_ne (by omega), ki_ne (by omega), ki_ne (by omega)]; exact kWf_room hW r0 r1
  · rw [ki_oF (by decide) m0 w0, ki_oF (by decide) m0 w0]
theorem wf_setRoom {f : Nat → Int} (hW : kWf f) (a b e : Int) : kWf (TsetRoom f a b e).2.2 := by
  unfold TsetRoom
  by_cases c : 0 ≤ a ∧ a ≤ 3 ∧ 0 ≤ b ∧ b ≤ 6 ∧ 0 ≤ e ∧ e ≤ 1
  · rw [kI_t c]
    show kWf (kiu (kiu f (5 + a).toNat b) (9 + a).toNat e)
    refine wf_cg hW ?_ ?_ ?_ ?_ ?_ (fun r r0 r1 => ?_) (fun m w m0 w0 => ?_)
    · rw [ki_ne (by omega), ki_ne (by omega)]; exact kWf_gap hW
    · rw [ki_ne (by omega), ki_ne (by omega)]
    · rw [ki_ne (by omega), ki_ne (by omega)]
    · rw [ki_ne (by omega), ki_ne (by omega)]; exact kWf_rsn hW
    · rw [ki_ne (by omega), ki_ne (by omega)]; exact kWf_dtl hW
    · have g := kWf_room hW r0 r1
      unfold kiu
      refine ⟨?_, ?_, ?_, ?_⟩ <;> (repeat' split) <;> omega
    · rw [ki_oF (by omega) m0 w0, ki_oF (by omega) m0 w0]
  · rw [kI_f c]; exact hW
theorem wf_setGap {f : Nat → Int} (hW : kWf f) (a : Int) : kWf (TsetGap f a).2.2 := by
  unfold TsetGap
  by_cases c : 0 ≤ a ∧ a ≤ 3
  · rw [kI_t c]
    show kWf (kiu f 0 a)
    refine wf_cg hW ?_ ?_ ?_ ?_ ?_ (fun r r0 r1 => ?_) (fun m w m0 w0 => ?_)
    · rw [ki_eq]; exact c
    · rw [ki_ne (by decide)]
    · rw [ki_ne (by decide)]
    · rw [ki_ne (by decide)]; exact kWf_rsn hW
    · rw [ki_ne (by decide)]; exact kWf_dtl hW
    · rw [ki_ne (by omega), ki_ne (by omega)]; exact kWf_room hW r0 r1
    · rw [ki_oF (by decide) m0 w0]
  · rw [kI_f c]; exact hW
-- a row whose meetings are some of the old ones, with some dates less standing
theorem kls_lt {P : Nat → Prop} {n : Nat} (h : 0 ≤ kls P n) : kls P n < (n : Int) ∧ P (kls P n).toNat := by
  rcases kls_spec P n with ⟨h1, -⟩ | ⟨i, h1, h2, h3, -⟩
  · omega
  · rw [h1]; exact ⟨by omega, h3⟩
