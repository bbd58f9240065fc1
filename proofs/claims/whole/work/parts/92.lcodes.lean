/-! ===== the law: codes, numbers used up; cells that are not the class's ===== -/
def kCo (f : Nat → Int) (T : kT) : Prop := 0 ≤ T.1 ∧ T.1 ≤ 4 ∧ T.2.2 2 ≤ f 2 + 1
theorem kI_co {f : Nat → Int} {P : Prop} {a b : kT} (h1 : P → kCo f a) (h2 : ¬ P → kCo f b) : kCo f (kI P a b) := by
  by_cases c : P
  · rw [kI_t c]; exact h1 c
  · rw [kI_f c]; exact h2 c
theorem co_f {f f' : Nat → Int} {c v : Int} (h : 0 ≤ c ∧ c ≤ 4) (e : f' 2 = f 2) : kCo f (c, v, f') := ⟨h.1, h.2, by show f' 2 ≤ f 2 + 1; omega⟩
section KCO
variable {f : Nat → Int}
theorem co_setRoom (a b e : Int) : kCo f (TsetRoom f a b e) := by
  unfold TsetRoom
  exact kI_co (fun c => co_f (by decide) ((ki_ne (by omega)).trans (ki_ne (by omega)))) (fun _ => co_f (by decide) rfl)
theorem co_setGap (a : Int) : kCo f (TsetGap f a) := by
  unfold TsetGap
  exact kI_co (fun c => co_f (by decide) (ki_ne (by decide))) (fun _ => co_f (by decide) rfl)
theorem co_remove (n : Int) : kCo f (Tremove f n) := by
  unfold Tremove
  exact kI_co (fun _ => co_f (by decide) rfl) (fun c => co_f (by decide) (by rw [rv_lo (by omega) (by decide)]; rfl))
theorem co_cancel (n d : Int) : kCo f (Tcancel f n d) := by
  unfold Tcancel
  exact kI_co (fun _ => co_f (by decide) rfl) (fun c => kI_co (fun c2 => kI_co (fun _ => co_f (by decide) (ly_lo (by omega) (by omega) (by decide))) (fun _ => co_f (by decide) rfl)) (fun _ => co_f (by decide) rfl))
theorem co_move (n d k t : Int) : kCo f (Tmove f n d k t) := by
  unfold Tmove
  exact kI_co (fun _ => co_f (by decide) rfl) (fun c => kI_co (fun c2 => kI_co (fun _ => kI_co (fun _ => co_f (by decide) rfl) (fun _ => kI_co (fun _ => co_f (by decide) rfl) (fun _ => co_f (by decide) (dt_lo (by omega) (by omega) (by decide))))) (fun _ => co_f (by decide) rfl)) (fun _ => co_f (by decide) rfl))
theorem co_answer (n p a : Int) : kCo f (Tanswer f n p a) := by
  unfold Tanswer
  exact kI_co (fun _ => co_f (by decide) rfl) (fun c => kI_co (fun c2 => kI_co (fun _ => co_f (by decide) rfl) (fun _ => kI_co (fun _ => co_f (by decide) rfl) (fun _ => kI_co (fun _ => co_f (by decide) rfl) (fun _ => co_f (by decide) (ly_lo (by omega) (by omega) (by decide)))))) (fun _ => co_f (by decide) rfl))
theorem co_ask (hW : kWf f) (host a k t n : Int) : kCo f (Task f host a k t n) := by
  have h8 := kWf_cnt hW
  unfold Task
  refine kI_co (fun _ => kI_co (fun _ => co_f (by decide) rfl) (fun _ => kI_co (fun _ => co_f (by decide) rfl) (fun _ => kI_co (fun _ => co_f (by decide) rfl) (fun _ => ⟨(by decide : (0 : Int) ≤ 0), (by decide : (0 : Int) ≤ 4), ?_⟩)))) (fun _ => co_f (by decide) rfl)
  show askF f host a.toNat k t n _ 2 ≤ f 2 + 1
  rw [as_lo h8.1 (by decide)]
  exact Int.le_refl _
theorem co_extend (hW : kWf f) (n k e : Int) : kCo f (Textend f n k e) := by
  have h8 := kWf_cnt hW
  have hat := atF_r (f := f) (n := n) h8.1
  unfold Textend
  refine kI_co (fun _ => co_f (by decide) rfl) (fun c => kI_co (fun _ => kI_co (fun _ => co_f (by decide) rfl) (fun _ => kI_co (fun _ => co_f (by decide) rfl) (fun _ => kI_co (fun _ => co_f (by decide) rfl) (fun _ => kI_co (fun _ => co_f (by decide) rfl) (fun _ => co_f (by decide) ?_))))) (fun _ => co_f (by decide) rfl))
  have g := kWf_m hW (m := atF f n) (by omega) (by omega)
  rw [ly_lo (by omega) (by decide) (by decide), ex_lo (by omega) (by omega) (by decide)]
theorem co_seatsOf (a : Int) : kCo f (TseatsOf f a) := by
  unfold TseatsOf
  repeat (first | exact co_f (by decide) rfl | refine kI_co (fun _ => ?_) (fun _ => ?_))
theorem co_houseOf (a : Int) : kCo f (ThouseOf f a) := by
  unfold ThouseOf
  repeat (first | exact co_f (by decide) rfl | refine kI_co (fun _ => ?_) (fun _ => ?_))
theorem co_meetingAt (a : Int) : kCo f (TmeetingAt f a) := by
  unfold TmeetingAt
  repeat (first | exact co_f (by decide) rfl | refine kI_co (fun _ => ?_) (fun _ => ?_))
theorem co_hostOf (n : Int) : kCo f (ThostOf f n) := by
  unfold ThostOf
  repeat (first | exact co_f (by decide) rfl | refine kI_co (fun _ => ?_) (fun _ => ?_))
theorem co_answerOf (n p : Int) : kCo f (TanswerOf f n p) := by
  unfold TanswerOf
  repeat (first | exact co_f (by decide) rfl | refine kI_co (fun _ => ?_) (fun _ => ?_))
theorem co_expected (n : Int) : kCo f (Texpected f n) := by
  unfold Texpected
  repeat (first | exact co_f (by decide) rfl | refine kI_co (fun _ => ?_) (fun _ => ?_))
theorem co_dateCount (n : Int) : kCo f (TdateCount f n) := by
  unfold TdateCount
  repeat (first | exact co_f (by decide) rfl | refine kI_co (fun _ => ?_) (fun _ => ?_))
theorem co_dayOf (n d : Int) : kCo f (TdayOf f n d) := by
  unfold TdayOf
  repeat (first | exact co_f (by decide) rfl | refine kI_co (fun _ => ?_) (fun _ => ?_))
theorem co_timeOf (n d : Int) : kCo f (TtimeOf f n d) := by
  unfold TtimeOf
  repeat (first | exact co_f (by decide) rfl | refine kI_co (fun _ => ?_) (fun _ => ?_))
theorem co_isCancelled (n d : Int) : kCo f (TisCancelled f n d) := by
  unfold TisCancelled
  repeat (first | exact co_f (by decide) rfl | refine kI_co (fun _ => ?_) (fun _ => ?_))
theorem co_roomOf (n d : Int) : kCo f (TroomOf f n d) := by
  unfold TroomOf
  repeat (first | exact co_f (by decide) rfl | refine kI_co (fun _ => ?_) (fun _ => ?_))
theorem co_refusalReason : kCo f (TrefusalReason f) := by
  unfold TrefusalReason
  repeat (first | exact co_f (by decide) rfl | refine kI_co (fun _ => ?_) (fun _ => ?_))
theorem co_refusalDetail : kCo f (TrefusalDetail f) := by
  unfold TrefusalDetail
  repeat (first | exact co_f (by decide) rfl | refine kI_co (fun _ => ?_) (fun _ => ?_))
theorem co_isFree (p k t : Int) : kCo f (TisFree f p k t) := by
  unfold TisFree
  repeat (first | exact co_f (by decide) rfl | refine kI_co (fun _ => ?_) (fun _ => ?_))
theorem co_meetingOf (p k t : Int) : kCo f (TmeetingOf f p k t) := by
  unfold TmeetingOf
  repeat (first | exact co_f (by decide) rfl | refine kI_co (fun _ => ?_) (fun _ => ?_))
theorem co_frees (p k : Int) : kCo f (Tfrees f p k) := by
  unfold Tfrees
  repeat (first | exact co_f (by decide) rfl | refine kI_co (fun _ => ?_) (fun _ => ?_))
theorem co_longestFree (p k : Int) : kCo f (TlongestFree f p k) := by
  unfold TlongestFree
  repeat (first | exact co_f (by decide) rfl | refine kI_co (fun _ => ?_) (fun _ => ?_))
theorem co_firstCommon (a n k : Int) : kCo f (TfirstCommon f a n k) := by
  unfold TfirstCommon
  repeat (first | exact co_f (by decide) rfl | refine kI_co (fun _ => ?_) (fun _ => ?_))
theorem co_commonCount (a n k : Int) : kCo f (TcommonCount f a n k) := by
  unfold TcommonCount
  repeat (first | exact co_f (by decide) rfl | refine kI_co (fun _ => ?_) (fun _ => ?_))
theorem co_roomFor (a n k t : Int) : kCo f (TroomFor f a n k t) := by
  unfold TroomFor
  repeat (first | exact co_f (by decide) rfl | refine kI_co (fun _ => ?_) (fun _ => ?_))
theorem co_usedTimes (rm k : Int) : kCo f (TusedTimes f rm k) := by
  unfold TusedTimes
  repeat (first | exact co_f (by decide) rfl | refine kI_co (fun _ => ?_) (fun _ => ?_))
theorem co_walks (p k : Int) : kCo f (Twalks f p k) := by
  unfold Twalks
  repeat (first | exact co_f (by decide) rfl | refine kI_co (fun _ => ?_) (fun _ => ?_))
-- answers that are true or false
theorem kI_bo {P : Prop} {a b : kT} (h1 : 0 ≤ a.2.1 ∧ a.2.1 ≤ 1) (h2 : 0 ≤ b.2.1 ∧ b.2.1 ≤ 1) : 0 ≤ (kI P a b).2.1 ∧ (kI P a b).2.1 ≤ 1 := by
  by_cases c : P
  · rw [kI_t c]; exact h1
  · rw [kI_f c]; exact h2
theorem bo_isCancelled (n d : Int) : 0 ≤ (TisCancelled f n d).2.1 ∧ (TisCancelled f n d).2.1 ≤ 1 := by
  unfold TisCancelled
  exact kI_bo (by decide : (0 : Int) ≤ 0 ∧ (0 : Int) ≤ 1) (kI_bo (kB_rng _) (by decide : (0 : Int) ≤ 0 ∧ (0 : Int) ≤ 1))
theorem bo_isFree (p k t : Int) : 0 ≤ (TisFree f p k t).2.1 ∧ (TisFree f p k t).2.1 ≤ 1 := by
  unfold TisFree
  exact kI_bo (kB_rng _) (by decide : (0 : Int) ≤ 0 ∧ (0 : Int) ≤ 1)
end KCO
section KUN
variable {G : kG} {h h' : kAH} {pl : Nat} {γ : kGh} {A : kAb} {f : Nat → Int}
theorem rp_un (q : kRp G h pl γ A f) (hk : ∀ (b : Nat) (e : va_E), h b = some e → gOw γ b ≠ (0, 0) → h' b = some e) (hn : ∀ b : Nat, h' b = none → h b = none) : kRp G h' pl γ A f := by
  refine ⟨?_, q.2⟩
  obtain ⟨a1, ⟨⟨F, b1, b2⟩, b3⟩, c1, ⟨⟨F2, e1, e2⟩, e3⟩, f1, g1, i1, j1, k1⟩ := q.1
  have hv : kMv (fun _ => False) (gOw γ) (gOw γ) h h' := fun b e hb h0 _ => ⟨hk b e hb h0, rfl⟩
  have L : ∀ {b : Nat} {t : Nat × Nat} {e : va_E}, t ≠ (0, 0) → h b = some e → gOw γ b = t → h' b = some e ∧ gOw γ b = t := fun h0 h3 h4 => mv_at hv h0 (fun y => y) h3 h4
  refine ⟨L (by simp) a1.1 a1.2, ?_, fun r r0 r1 => L (by simp) (c1 r r0 r1).1 (c1 r r0 r1).2, ?_, fun i i0 i9 => ?_, kLt_mv hv (by simp) (fun y => y) (by simp) (fun y => y) g1, fun i hi => ?_, fun i j hi n0 n1 n2 => ?_, fun b hb => k1 b (hn b hb)⟩
  · obtain ⟨u1, u2⟩ := L (by simp) b1 b3
    exact ⟨⟨F, u1, b2⟩, u2⟩
  · obtain ⟨u1, u2⟩ := L (by simp) e1 e3
    exact ⟨⟨F2, u1, e2⟩, u2⟩
  · obtain ⟨⟨u1, u2⟩, u3⟩ := f1 i i0 i9
    exact ⟨L (by simp) u1 u2, kLt_mv hv (by simp) (fun y => y) (by simp) (fun y => y) u3⟩
  · obtain ⟨u0, ⟨u1, u2⟩, u3⟩ := i1 i hi
    exact ⟨u0, L (by simp) u1 u2, kLt_mv hv (by simp) (fun y => y) (by simp) (fun y => y) u3⟩
  · obtain ⟨⟨u1, u2⟩, u3, u4⟩ := j1 i j hi n0 n1 n2
    exact ⟨L (by simp) u1 u2, L (by simp) u3 u4⟩
theorem rp_fw {o g r : Nat} {c wm wd : Int} {f' : Nat → Int} (q : kRp G h pl γ A f) (ho : gOw γ o = (0, 0)) (hg : gOw γ g = (0, 0)) (hr : gOw γ r = (0, 0)) (hf : kFw o g r h h') (hM : kMd G h' o g r c wm wd f') : kRp G h' pl γ A f := by
  obtain ⟨m1, m2, rr, m3⟩ := hM
  refine rp_un q (fun b e hb h0 => (hf b (fun y => h0 (by rw [y]; exact ho)) (fun y => h0 (by rw [y]; exact hg)) (fun y => h0 (by rw [y]; exact hr))).trans hb) (fun b hb => ?_)
  rw [← hf b (fun y => by rw [y, m1] at hb; cases hb) (fun y => by rw [y, m2] at hb; cases hb) (fun y => by rw [y, m3] at hb; cases hb)]
  exact hb
-- what a call of the law's own leaves
def kLw (G : kG) (pl ol : Nat) (γ : kGh) (h : kAH) (T : kT) (X : Int64) : Option Value → kAH → Prop := fun v h' => v = some (.int (iI T.1)) ∧ (∃ F : Nat → Int64, h' ol = some (klo1 G 1 F) ∧ (T.1 = 0 → F 0 = X)) ∧
  ∃ (γ' : kGh) (A' : kAb), kRp G h' pl γ' A' T.2.2 ∧ gOw γ' ol = (0, 0) ∧ ∀ (b : Nat) (e : va_E), h b = some e → gOw γ b = (0, 0) → b ≠ ol → h' b = some e ∧ gOw γ' b = (0, 0)
end KUN
