/-! ===== the reference's row under updates ===== -/
theorem oF_ly {f : Nat → Int} {m w v m' w' : Int} (h0 : 0 ≤ m) (h1 : 0 ≤ w ∧ w < 40) (h2 : 0 ≤ m') (h3 : 0 ≤ w' ∧ w' < 40) : oF (lyF f m w v) m' w' = if m' = m ∧ w' = w then v else oF f m' w' := by
  unfold oF lyF kiu
  by_cases c : m' = m ∧ w' = w
  · rw [if_pos c, if_pos (by rw [c.1, c.2])]
  · rw [if_neg c, if_neg (by omega)]
theorem ly_lo {f : Nat → Int} {m w v : Int} {j : Nat} (h0 : 0 ≤ m) (h1 : 0 ≤ w) (hj : j < 20) : lyF f m w v j = f j := by
  unfold lyF kiu
  rw [if_neg (by omega)]
theorem sh_lo {f : Nat → Int} {a i j : Nat} (hj : j < a) : shF f a i j = f j := by
  induction i with
  | zero => rfl
  | succ i ih =>
    rw [shF]
    unfold kiu
    rw [if_neg (by omega), ih]
theorem sh_at {f : Nat → Int} {a i j : Nat} (hi : i ≤ j + 40) : shF f a i (a + j) = if j < i then f (a + j + 40) else f (a + j) := by
  induction i generalizing j with
  | zero => rfl
  | succ i ih =>
    rw [shF]
    unfold kiu
    by_cases c : a + j = a + i
    · have e : j = i := by omega
      subst e
      rw [if_pos rfl, if_pos (by omega), show a + j + 40 = a + (j + 40) by omega, ih (by omega), if_neg (by omega)]
    · rw [if_neg c, ih (by omega)]
      by_cases c2 : j < i
      · rw [if_pos c2, if_pos (by omega)]
      · rw [if_neg c2, if_neg (by omega)]
theorem sh_s {f : Nat → Int} {a i : Nat} {x y : Int} (h1 : x.toNat = a + i) (h2 : y.toNat = a + i + 40) : kiu (shF f a i) x.toNat (shF f a i y.toNat) = shF f a (i + 1) := by
  rw [h1, h2]; rfl
theorem an_oF {f : Nat → Int} {m host : Int} {q i : Nat} {m' w' : Int} (h0 : 0 ≤ m) (hi : i ≤ 6) (h2 : 0 ≤ m') (h3 : 0 ≤ w' ∧ w' < 40) (hne : ¬ (m' = m ∧ 4 ≤ w' ∧ w' < 10)) : oF (anF f m host q i) m' w' = oF f m' w' := by
  induction i with
  | zero => rfl
  | succ i ih => rw [anF, oF_ly h0 (by omega) h2 h3, if_neg (by omega), ih (by omega)]
theorem an_lo {f : Nat → Int} {m host : Int} {q i : Nat} {j : Nat} (h0 : 0 ≤ m) (hj : j < 20) : anF f m host q i j = f j := by
  induction i with
  | zero => rfl
  | succ i ih => rw [anF, ly_lo h0 (by omega) hj, ih]
theorem an_ans {f : Nat → Int} {m host : Int} {q i : Nat} {p : Nat} (h0 : 0 ≤ m) (hi : i ≤ 6) (hp : p < i) : oF (anF f m host q i) m (4 + (p : Int)) = kI ((p : Int) ≠ host ∧ q.testBit p = true) 111 45 := by
  induction i with
  | zero => omega
  | succ i ih =>
    rw [anF, oF_ly h0 (by omega) h0 (by omega)]
    by_cases c : p = i
    · subst c
      rw [if_pos ⟨rfl, rfl⟩]
    · rw [if_neg (by omega), ih (by omega) (by omega)]
theorem dt_oF {f : Nat → Int} {m d k t rm m' w' : Int} (h0 : 0 ≤ m) (hd : 0 ≤ d ∧ d < 6) (h2 : 0 ≤ m') (h3 : 0 ≤ w' ∧ w' < 40) : oF (dtF f m d k t rm) m' w' = if m' = m ∧ w' = 10 + 4 * d + 3 then rm else if m' = m ∧ w' = 10 + 4 * d + 2 then 0 else if m' = m ∧ w' = 10 + 4 * d + 1 then t else if m' = m ∧ w' = 10 + 4 * d + 0 then k else oF f m' w' := by
  unfold dtF
  rw [oF_ly h0 (by omega) h2 h3, oF_ly h0 (by omega) h2 h3, oF_ly h0 (by omega) h2 h3, oF_ly h0 (by omega) h2 h3]
theorem dt_lo {f : Nat → Int} {m d k t rm : Int} {j : Nat} (h0 : 0 ≤ m) (hd : 0 ≤ d) (hj : j < 20) : dtF f m d k t rm j = f j := by
  unfold dtF
  rw [ly_lo h0 (by omega) hj, ly_lo h0 (by omega) hj, ly_lo h0 (by omega) hj, ly_lo h0 (by omega) hj]
theorem ki_oF {f : Nat → Int} {j : Nat} {x m w : Int} (hj : j < 20) (h0 : 0 ≤ m) (h1 : 0 ≤ w) : oF (kiu f j x) m w = oF f m w := by
  unfold oF kiu
  rw [if_neg (by omega)]
theorem ki_ne {f : Nat → Int} {j j' : Nat} {x : Int} (h : j' ≠ j) : kiu f j x j' = f j' := if_neg h
theorem ki_eq {f : Nat → Int} {j : Nat} {x : Int} : kiu f j x j = x := if_pos rfl
theorem ex_oF {f : Nat → Int} {m k : Int} {i : Nat} {m' w' : Int} (h0 : 0 ≤ m) (hc : 1 ≤ oF f m 3 ∧ oF f m 3 + (i : Int) ≤ 6) (h2 : 0 ≤ m') (h3 : 0 ≤ w' ∧ w' < 40) (hne : ¬ (m' = m ∧ 10 + 4 * oF f m 3 ≤ w' ∧ w' < 10 + 4 * (oF f m 3 + (i : Int)))) : oF (exF2 f m k i) m' w' = oF f m' w' := by
  induction i with
  | zero => rfl
  | succ i ih =>
    rw [exF2, dt_oF h0 (by omega) h2 h3, if_neg (by omega), if_neg (by omega), if_neg (by omega), if_neg (by omega), ih (by omega) (by omega)]
theorem ex_lo {f : Nat → Int} {m k : Int} {i : Nat} {j : Nat} (h0 : 0 ≤ m) (hc : 1 ≤ oF f m 3) (hj : j < 20) : exF2 f m k i j = f j := by
  induction i with
  | zero => rfl
  | succ i ih => rw [exF2, dt_lo h0 (by omega) hj, ih]
theorem ex_dt {f : Nat → Int} {m k : Int} {i : Nat} {j : Nat} (h0 : 0 ≤ m) (hc : 1 ≤ oF f m 3 ∧ oF f m 3 + (i : Int) ≤ 6) (hj : j < i) :
    dF (exF2 f m k i) m (oF f m 3 + (j : Int)) 0 = dF f m (oF f m 3 - 1) 0 + k * ((j : Int) + 1) ∧ dF (exF2 f m k i) m (oF f m 3 + (j : Int)) 1 = dF f m (oF f m 3 - 1) 1 ∧ dF (exF2 f m k i) m (oF f m 3 + (j : Int)) 2 = 0 ∧ dF (exF2 f m k i) m (oF f m 3 + (j : Int)) 3 = exS f m k 0 ((j : Int) + 1) := by
  induction i with
  | zero => omega
  | succ i ih =>
    rw [exF2]
    unfold dF
    rw [dt_oF h0 (by omega) h0 (by omega), dt_oF h0 (by omega) h0 (by omega), dt_oF h0 (by omega) h0 (by omega), dt_oF h0 (by omega) h0 (by omega)]
    by_cases c : j = i
    · subst c
      rw [if_neg (by omega), if_neg (by omega), if_neg (by omega), if_pos (by omega), if_neg (by omega), if_neg (by omega), if_pos (by omega), if_neg (by omega), if_pos (by omega), if_pos (by omega)]
      exact ⟨rfl, rfl, rfl, rfl⟩
    · rw [if_neg (by omega), if_neg (by omega), if_neg (by omega), if_neg (by omega), if_neg (by omega), if_neg (by omega), if_neg (by omega), if_neg (by omega), if_neg (by omega), if_neg (by omega), if_neg (by omega), if_neg (by omega), if_neg (by omega), if_neg (by omega), if_neg (by omega), if_neg (by omega)]
      exact ih (by omega) (by omega)
