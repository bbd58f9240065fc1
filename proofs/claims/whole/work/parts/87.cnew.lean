/-! ===== the class: constructors of dates and meetings; new dates, new meetings ===== -/
theorem w_dateI {l : Launch} {G : kG} {h : kAH} (hl : l.stackTraces = false) {a m s r : Nat} (hA : h a = some (.inr (4, [.null, .null, .null, .int (iI 0)]))) : kC l G m_X0_init 1 0 0 [.ref a, .ref m, .ref s, .ref r] h (fun v h' => v = none ∧ h' a = some (.inr (4, [.ref m, .ref s, .ref r, .int (iI 0)])) ∧ ∀ b, b ≠ a → h' b = h b) kNo := by
  refine kC_of hl rfl rfl (Nat.le_of_ble_eq_true rfl) (L := [some (.ref a), some (.ref m), some (.ref s), some (.ref r)]) rfl ?_
  refine k_aload_n (pc1 := 1) dX0_init_0 rfl rfl ?_
  refine k_objInit (pc1 := 4) dX0_init_1 rfl lk_RX0_1 oi_inst oi_code (k8 rfl) ?_
  refine k_aload_n (pc1 := 5) dX0_init_4 rfl rfl ?_
  refine k_aload_n (pc1 := 6) dX0_init_5 rfl rfl ?_
  refine k_put (pc1 := 9) dX0_init_6 rfl fp_RX0_7 (Or.inr rfl) hA (Nat.le_of_ble_eq_true rfl) rfl rfl ?_
  obtain ⟨h56, eh56⟩ : ∃ z, z = kup h a (.inr (4, [.ref m, .null, .null, .int (iI 0)])) := ⟨_, rfl⟩
  refine k_hp (h' := h56) eh56.symm ?_
  have hA56 : h56 a = some (.inr (4, [.ref m, .null, .null, .int (iI 0)])) := by rw [eh56]; exact kup_same _ _ _
  have hfr56 : ∀ b, b ≠ a → h56 b = h b := fun b hb => by rw [eh56]; exact kup_ne hb
  clear eh56
  refine k_aload_n (pc1 := 10) dX0_init_9 rfl rfl ?_
  refine k_aload_n (pc1 := 11) dX0_init_10 rfl rfl ?_
  refine k_put (pc1 := 14) dX0_init_11 rfl fp_RX0_13 (Or.inl rfl) hA56 (Nat.le_of_ble_eq_true rfl) rfl rfl ?_
  obtain ⟨h57, eh57⟩ : ∃ z, z = kup h56 a (.inr (4, [.ref m, .ref s, .null, .int (iI 0)])) := ⟨_, rfl⟩
  refine k_hp (h' := h57) eh57.symm ?_
  have hA57 : h57 a = some (.inr (4, [.ref m, .ref s, .null, .int (iI 0)])) := by rw [eh57]; exact kup_same _ _ _
  have hfr57 : ∀ b, b ≠ a → h57 b = h56 b := fun b hb => by rw [eh57]; exact kup_ne hb
  clear eh57
  refine k_aload_n (pc1 := 15) dX0_init_14 rfl rfl ?_
  refine k_aload_n (pc1 := 16) dX0_init_15 rfl rfl ?_
  refine k_put (pc1 := 19) dX0_init_16 rfl fp_RX0_17 (Or.inl rfl) hA57 (Nat.le_of_ble_eq_true rfl) rfl rfl ?_
  obtain ⟨h58, eh58⟩ : ∃ z, z = kup h57 a (.inr (4, [.ref m, .ref s, .ref r, .int (iI 0)])) := ⟨_, rfl⟩
  refine k_hp (h' := h58) eh58.symm ?_
  have hA58 : h58 a = some (.inr (4, [.ref m, .ref s, .ref r, .int (iI 0)])) := by rw [eh58]; exact kup_same _ _ _
  have hfr58 : ∀ b, b ≠ a → h58 b = h57 b := fun b hb => by rw [eh58]; exact kup_ne hb
  clear eh58
  exact k_vret dX0_init_19 rfl ⟨rfl, hA58, fun b hb => (hfr58 b hb).trans ((hfr57 b hb).trans (hfr56 b hb))⟩
theorem w_meetI {l : Launch} {G : kG} {h : kAH} (hl : l.stackTraces = false) {a ak : Nat} {num hst : Int} (hA : h a = some (.inr (6, [.int (iI 0), .int (iI 0), .int (iI 0), .null, .int (iI 0), .int (iI 0)]))) : kC l G m_X2_init 4 1 3 [.ref a, .int (iI num), .int (iI hst), .int (iI ((ak : Nat) : Int))] h (fun v h' => v = none ∧ ∃ q : Nat, h q = none ∧ h' a = some (.inr (6, [.int (iI num), .int (iI hst), .int (iI ((ak : Nat) : Int)), .ref q, .int (iI 0), .int (iI 0)])) ∧ kLs G h' q G.2.2.2 0 [] ∧ ∀ b, b ≠ a → b ≠ q → h' b = h b) kNo := by
  refine kC_of hl rfl rfl (Nat.le_of_ble_eq_true rfl) (L := [some (.ref a), some (.int (iI num)), some (.int (iI hst)), some (.int (iI ((ak : Nat) : Int)))]) rfl ?_
  refine k_aload_n (pc1 := 1) dX2_init_0 rfl rfl ?_
  refine k_objInit (pc1 := 4) dX2_init_1 rfl lk_RX2_3 oi_inst oi_code (k8 rfl) ?_
  refine k_aload_n (pc1 := 5) dX2_init_4 rfl rfl ?_
  refine k_iload_n (pc1 := 6) dX2_init_5 rfl rfl ?_
  refine k_put (pc1 := 9) dX2_init_6 rfl fp_RX2_9 (Or.inr rfl) hA (Nat.le_of_ble_eq_true rfl) rfl rfl ?_
  obtain ⟨h59, eh59⟩ : ∃ z, z = kup h a (.inr (6, [.int (iI num), .int (iI 0), .int (iI 0), .null, .int (iI 0), .int (iI 0)])) := ⟨_, rfl⟩
  refine k_hp (h' := h59) eh59.symm ?_
  have hA59 : h59 a = some (.inr (6, [.int (iI num), .int (iI 0), .int (iI 0), .null, .int (iI 0), .int (iI 0)])) := by rw [eh59]; exact kup_same _ _ _
  have hfr59 : ∀ b, b ≠ a → h59 b = h b := fun b hb => by rw [eh59]; exact kup_ne hb
  clear eh59
  refine k_aload_n (pc1 := 10) dX2_init_9 rfl rfl ?_
  refine k_iload_n (pc1 := 11) dX2_init_10 rfl rfl ?_
  refine k_put (pc1 := 14) dX2_init_11 rfl fp_RX2_15 (Or.inr rfl) hA59 (Nat.le_of_ble_eq_true rfl) rfl rfl ?_
  obtain ⟨h60, eh60⟩ : ∃ z, z = kup h59 a (.inr (6, [.int (iI num), .int (iI hst), .int (iI 0), .null, .int (iI 0), .int (iI 0)])) := ⟨_, rfl⟩
  refine k_hp (h' := h60) eh60.symm ?_
  have hA60 : h60 a = some (.inr (6, [.int (iI num), .int (iI hst), .int (iI 0), .null, .int (iI 0), .int (iI 0)])) := by rw [eh60]; exact kup_same _ _ _
  have hfr60 : ∀ b, b ≠ a → h60 b = h59 b := fun b hb => by rw [eh60]; exact kup_ne hb
  clear eh60
  refine k_aload_n (pc1 := 15) dX2_init_14 rfl rfl ?_
  refine k_iload_n (pc1 := 16) dX2_init_15 rfl rfl ?_
  refine k_put (pc1 := 19) dX2_init_16 rfl fp_RX2_18 (Or.inr rfl) hA60 (Nat.le_of_ble_eq_true rfl) rfl rfl ?_
  obtain ⟨h61, eh61⟩ : ∃ z, z = kup h60 a (.inr (6, [.int (iI num), .int (iI hst), .int (iI ((ak : Nat) : Int)), .null, .int (iI 0), .int (iI 0)])) := ⟨_, rfl⟩
  refine k_hp (h' := h61) eh61.symm ?_
  have hA61 : h61 a = some (.inr (6, [.int (iI num), .int (iI hst), .int (iI ((ak : Nat) : Int)), .null, .int (iI 0), .int (iI 0)])) := by rw [eh61]; exact kup_same _ _ _
  have hfr61 : ∀ b, b ≠ a → h61 b = h60 b := fun b hb => by rw [eh61]; exact kup_ne hb
  clear eh61
  refine k_aload_n (pc1 := 20) dX2_init_19 rfl rfl ?_
  refine k_new (pc1 := 23) dX2_init_20 rfl nw_RX2_21 (by omega) (by omega) (fun q hq => ?_)
  refine k_dup (pc1 := 24) dX2_init_23 rfl rfl ?_
  refine k_callI dX2_init_24 rfl lk_RX2_23 o_Jx4a65c_init_da8c8 (as := []) rfl rfl (w_lnew hl (kup_same _ _ _)) (fun E h9 z => z.elim) (by decide) (by decide) (Nat.zero_le _) (Nat.zero_le _) (k8 rfl) (fun v hN hv => ?_)
  obtain ⟨hv1, hLN, hv3⟩ := hv
  subst hv1
  refine k_st (st' := [.ref q, .ref a]) rfl ?_
  have hfN : ∀ b, b ≠ q → hN b = h61 b := fun b hb => (hv3 b hb).trans (kup_ne hb)
  have hXN : kXt h61 hN := fun b e z => (hfN b (kne_new z hq)).trans z
  clear hv3
  have hAN := hXN _ _ hA61
  have hqa : q ≠ a := fun z => by rw [z, hA61] at hq; cases hq
  refine k_put (pc1 := 30) dX2_init_27 rfl fp_RX2_24 (Or.inr rfl) hAN (Nat.le_of_ble_eq_true rfl) rfl rfl ?_
  obtain ⟨h62, eh62⟩ : ∃ z, z = kup hN a (.inr (6, [.int (iI num), .int (iI hst), .int (iI ((ak : Nat) : Int)), .ref q, .int (iI 0), .int (iI 0)])) := ⟨_, rfl⟩
  refine k_hp (h' := h62) eh62.symm ?_
  have hA62 : h62 a = some (.inr (6, [.int (iI num), .int (iI hst), .int (iI ((ak : Nat) : Int)), .ref q, .int (iI 0), .int (iI 0)])) := by rw [eh62]; exact kup_same _ _ _
  have hfr62 : ∀ b, b ≠ a → h62 b = hN b := fun b hb => by rw [eh62]; exact kup_ne hb
  clear eh62
  obtain ⟨⟨mcq, hq1⟩, hq2⟩ := hLN
  exact k_vret dX2_init_30 rfl ⟨rfl, q, by rw [← ((hfr61 q hqa).trans ((hfr60 q hqa).trans (hfr59 q hqa)))]; exact hq, hA62, ⟨⟨mcq, (hfr62 _ hqa).trans hq1⟩, Or.inl ⟨rfl, rfl, rfl⟩⟩, fun b hb hb2 => (hfr62 b hb).trans ((hfN b hb2).trans ((hfr61 b hb).trans ((hfr60 b hb).trans (hfr59 b hb))))⟩
abbrev xDS (γ : kGh) (ow' : Nat → Nat × Nat) (dg sg : Int → Int → Nat) : kGh := (ow', γ.2.1, γ.2.2.1, γ.2.2.2.1, γ.2.2.2.2.1, γ.2.2.2.2.2.1, dg, sg, γ.2.2.2.2.2.2.2.2)
abbrev xMx (A : kAb) (n : Int) (v : Nat) (dx : Int → List (Int × Int)) : kAb := (A.1, A.2.1, A.2.2.1, A.2.2.2.1, A.2.2.2.2.1, A.2.2.2.2.2.1, A.2.2.2.2.2.2.1, A.2.2.2.2.2.2.2.1, (fun i => if i = n then v else aMn A i), A.2.2.2.2.2.2.2.2.2.1, dx, A.2.2.2.2.2.2.2.2.2.2.2)
theorem xMx_2 {A : kAb} {n : Int} {v v' : Nat} {dx : Int → List (Int × Int)} : xMx (xMx A n v dx) n v' dx = xMx A n v' dx := by
  have e : (fun i => if i = n then v' else (if i = n then v else aMn A i)) = fun i => if i = n then v' else aMn A i := funext fun i => by
    by_cases c : i = n
    · rw [if_pos c, if_pos c]
    · rw [if_neg c, if_neg c, if_neg c]
  exact congrArg (fun g : Int → Nat => ((A.1, A.2.1, A.2.2.1, A.2.2.2.1, A.2.2.2.2.1, A.2.2.2.2.2.1, A.2.2.2.2.2.2.1, A.2.2.2.2.2.2.2.1, g, A.2.2.2.2.2.2.2.2.2.1, dx, A.2.2.2.2.2.2.2.2.2.2.2) : kAb)) e
theorem xMx_1 {A : kAb} {n : Int} : xMx A n (aMn A n) (aDx A) = A := by
  have e : (fun i => if i = n then aMn A n else aMn A i) = aMn A := funext fun i => by
    by_cases c : i = n
    · rw [if_pos c, c]
    · rw [if_neg c]
  exact congrArg (fun g : Int → Nat => ((A.1, A.2.1, A.2.2.1, A.2.2.2.1, A.2.2.2.2.1, A.2.2.2.2.2.1, A.2.2.2.2.2.2.1, A.2.2.2.2.2.2.2.1, g, A.2.2.2.2.2.2.2.2.2.1, aDx A, A.2.2.2.2.2.2.2.2.2.2.2) : kAb)) e
theorem do_mn {A : kAb} {xs : List (Int × Int)} {N v : Nat} {n : Int} {dx : Int → List (Int × Int)} (z : kDo A xs N) (hv : aMn A n ≤ v) : kDo (xMx A n v dx) xs N := by
  refine ⟨z.1, z.2.1, z.2.2.1, fun q hq => ?_⟩
  obtain ⟨y1, y2, y3, y4⟩ := z.2.2.2 q hq
  refine ⟨y1, y2, ?_, y4⟩
  show q.2 < ((if q.1 = n then v else aMn A q.1 : Nat) : Int)
  by_cases c : q.1 = n
  · rw [if_pos c]
    rw [c] at y3
    omega
  · rw [if_neg c]; exact y3
section KNW
variable {G : kG} {h h' : kAH} {pl : Nat} {γ : kGh} {A : kAb} {f : Nat → Int} {n : Int}
theorem kLt_ow {ow ow' : Nat → Nat × Nat} {a : Nat} {xs : List Nat} {t t' : Nat × Nat} (hh : ∀ (b : Nat) (e : va_E), h b = some e → (∀ (ci : Nat) (vs : List Value), e = .inr (ci, vs) → ci = 3) → ow' b = ow b) (z : kLt G h ow a xs t t') : kLt G h ow' a xs t t' := by
  obtain ⟨z1, r, c, ⟨⟨mc, y1⟩, y2⟩, z3⟩ := z
  refine ⟨(hh a _ y1 (fun ci vs e => by cases e; rfl)).trans z1, r, c, ⟨⟨mc, y1⟩, y2⟩, ?_⟩
  rcases y2 with y2 | ⟨g1, g2, F, g3, g4⟩
  · exact Or.inl y2
  · rcases z3 with ⟨-, -, z3⟩ | z3
    · omega
    · exact Or.inr ((hh r _ g3 (fun ci vs e => by cases e)).trans z3)
-- where there is no date yet, anything may be written down for it
theorem ra_pre (z : kRA G h pl γ A) {dg sg : Int → Int → Nat} {dt : Int → Int → Nat → Int} (hg : ∀ n d : Int, aLv A n → 0 ≤ d → d < (aMn A n : Int) → dg n d = gDt γ n d ∧ sg n d = gSt γ n d ∧ ∀ w : Nat, dt n d w = aDt A n d w)
    (ho : ∀ k : Int, 0 ≤ k → k < 28 → ∀ q ∈ aDx A k, aLv A q.1 ∧ 0 ≤ q.2 ∧ q.2 < (aMn A q.1 : Int)) : kRA G h pl (xDS γ γ.1 dg sg) (xDD A dt (aDx A)) := by
  obtain ⟨a1, b1, c1, e1, f1, g1, i1, j1, k1⟩ := z
  refine ⟨a1, b1, c1, e1, fun k k0 k9 => ?_, g1, fun i hi => ?_, fun i j hi n0 n1 n2 => ?_, k1⟩
  · obtain ⟨u1, u2⟩ := f1 k k0 k9
    refine ⟨u1, ?_⟩
    have e : (aDx A k).map (fun q => dg q.1 q.2) = (aDx A k).map (fun q => gDt γ q.1 q.2) := List.map_congr_left fun q hq => by
      obtain ⟨y1, y2, y3⟩ := ho k k0 k9 q hq
      exact (hg q.1 q.2 y1 y2 y3).1
    show kLt G h _ _ ((aDx A k).map (fun q => dg q.1 q.2)) _ _
    rw [e]; exact u2
  · obtain ⟨u0, u1, u2⟩ := i1 i hi
    refine ⟨u0, u1, ?_⟩
    have e : (List.range (aMn A i)).map (fun (d : Nat) => dg i (d : Int)) = (List.range (aMn A i)).map (fun (d : Nat) => gDt γ i (d : Int)) := List.map_congr_left fun d hd => (hg i (d : Int) hi (by omega) (by have := List.mem_range.mp hd; omega)).1
    show kLt G h _ _ ((List.range (aMn A i)).map (fun (d : Nat) => dg i (d : Int))) _ _
    rw [e]; exact u2
  · obtain ⟨v1, v2, v3⟩ := hg i j hi n0 n1
    obtain ⟨⟨u1, u2⟩, u3, u4⟩ := j1 i j hi n0 n1 n2
    refine ⟨⟨?_, ?_⟩, ?_, ?_⟩
    · show h (dg i j) = some (Sum.inr (4, [Value.ref (gMt γ i), Value.ref (sg i j), Value.ref (gRm γ (dt i j 3)), Value.int (iI (dt i j 2))]))
      rw [v1, v2, v3, v3]; exact u1
    · show gOw γ (dg i j) = _
      rw [v1]; exact u2
    · show h (sg i j) = some (Sum.inr (8, [Value.int (iI (dt i j 0)), Value.int (iI (dt i j 1)), Value.int (iI (dt i j 4))]))
      rw [v2, v3, v3, v3]; exact u3
    · show gOw γ (sg i j) = _
      rw [v2]; exact u4
-- a date more in a meeting's list
theorem ra_MA (z : kRA G h pl γ A) (hn : aLv A n) (h6 : aMn A n < 6) {ar c0 : Nat} (hS : kLs G h (gMd γ n) ar c0 ((List.range (aMn A n)).map fun (d : Nat) => gDt γ n (d : Int))) (har : gOw γ ar = (6, n.toNat) ∨ h ar = none) (hed : h' G.2.2.2 = none)
    (hq : h (gDt γ n (aMn A n : Int)) = some (kDc γ A n (aMn A n : Int))) (hq0 : gOw γ (gDt γ n (aMn A n : Int)) = (0, 0)) (hs : h (gSt γ n (aMn A n : Int)) = some (kSc A n (aMn A n : Int))) (hs0 : gOw γ (gSt γ n (aMn A n : Int)) = (0, 0))
    (hx : kLx G h (gMd γ n) ar (((List.range (aMn A n)).map fun (d : Nat) => gDt γ n (d : Int)) ++ [gDt γ n (aMn A n : Int)]) h') :
    ∃ ow' : Nat → Nat × Nat, kRA G h' pl (ow', γ.2) (xMx A n (aMn A n + 1) (aDx A)) ∧ ∀ (b : Nat) (e : va_E), h b = some e → gOw γ b = (0, 0) → b ≠ gDt γ n (aMn A n : Int) → b ≠ gSt γ n (aMn A n : Int) → h' b = some e ∧ ow' b = (0, 0) := by
  obtain ⟨ar', c', hS', hne, hfr⟩ := hx
  obtain ⟨a1, ⟨⟨F, b1, b2⟩, b3⟩, c1, ⟨⟨F2, e1, e2⟩, e3⟩, f1, g1, i1, j1, l1⟩ := z
  have hn0 := (i1 n hn).1
  have hta : gOw γ (gMd γ n) = (5, n.toNat) := (i1 n hn).2.2.1
  have haa : gMd γ n ≠ ar' := fun e => by
    obtain ⟨⟨mc, y1⟩, -⟩ := hS
    rcases hne with y | y
    · rcases har with w | w
      · rw [← y, ← e, hta] at w; cases w
      · rw [← y, ← e, y1] at w; cases w
    · rw [← e, y1] at y; cases y
  have hqh : h' (gDt γ n (aMn A n : Int)) = some (kDc γ A n (aMn A n : Int)) := (hfr _ (fun e => by rw [e, hta] at hq0; cases hq0) (fun e => by
    rcases har with w | w
    · rw [e, w] at hq0; cases hq0
    · rw [e, w] at hq; cases hq) (by rw [hq]; exact fun y => by cases y)).trans hq
  have hsh : h' (gSt γ n (aMn A n : Int)) = some (kSc A n (aMn A n : Int)) := (hfr _ (fun e => by rw [e, hta] at hs0; cases hs0) (fun e => by
    rcases har with w | w
    · rw [e, w] at hs0; cases hs0
    · rw [e, w] at hs; cases hs) (by rw [hs]; exact fun y => by cases y)).trans hs
  have hqs : gDt γ n (aMn A n : Int) ≠ gSt γ n (aMn A n : Int) := fun e => by
    rw [e, hs] at hq
    cases hq
  obtain ⟨ow', how⟩ : ∃ ow' : Nat → Nat × Nat, ow' = fun b => if b = gDt γ n (aMn A n : Int) then (7, (6 * n + (aMn A n : Int)).toNat) else if b = gSt γ n (aMn A n : Int) then (8, (6 * n + (aMn A n : Int)).toNat) else kOw (gOw γ) h' ar' (6, n.toNat) b := ⟨_, rfl⟩
  have how1 : ow' (gDt γ n (aMn A n : Int)) = (7, (6 * n + (aMn A n : Int)).toNat) := by rw [how]; exact if_pos rfl
  have how2 : ow' (gSt γ n (aMn A n : Int)) = (8, (6 * n + (aMn A n : Int)).toNat) := by rw [how]; exact (if_neg (Ne.symm hqs)).trans (if_pos rfl)
  have how3 : ∀ b, b ≠ gDt γ n (aMn A n : Int) → b ≠ gSt γ n (aMn A n : Int) → ow' b = kOw (gOw γ) h' ar' (6, n.toNat) b := fun b u1 u2 => by rw [how]; exact (if_neg u1).trans (if_neg u2)
  clear how
  have L : ∀ {b : Nat} {t : Nat × Nat} {e : va_E}, t ≠ (5, n.toNat) → t ≠ (6, n.toNat) → t ≠ (0, 0) → h b = some e → gOw γ b = t → h' b = some e ∧ ow' b = t := fun {b t e} h1 h2 h0 h3 h4 => by
    obtain ⟨u1, u2⟩ := lx_at hfr hta har hne h1 h2 h3 h4
    exact ⟨u1, (how3 b (fun y => h0 (by rw [← h4, y]; exact hq0)) (fun y => h0 (by rw [← h4, y]; exact hs0))).trans u2⟩
  have hmv : kMv (fun t => t = (5, n.toNat) ∨ t = (6, n.toNat)) (gOw γ) ow' h h' := fun b e hb h0 hT => L (fun y => hT (Or.inl y)) (fun y => hT (Or.inr y)) h0 hb rfl
  have hkeep : ∀ (b : Nat) (e : va_E), h' b = some e → (∀ (ci : Nat) (vs : List Value), e = .inr (ci, vs) → ci = 3) → ow' b = kOw (gOw γ) h' ar' (6, n.toNat) b := fun b e hb hc => how3 b (fun y => by
    rw [y, hqh] at hb
    have := hc 4 _ (Option.some.inj hb).symm
    omega) (fun y => by
    rw [y, hsh] at hb
    have := hc 8 _ (Option.some.inj hb).symm
    omega)
  refine ⟨ow', ⟨L (by simp) (by simp) (by simp) a1.1 a1.2, ?_, fun r r0 r1 => L (by simp) (by simp) (by simp) (c1 r r0 r1).1 (c1 r r0 r1).2, ?_, fun i i0 i9 => ?_, kLt_mv hmv (by simp) (by simp) (by simp) (by simp) g1, fun i hi => ?_, fun i j hi n0 n1 n2 => ?_, fun b hb => ?_⟩, fun b e w1 w2 w3 w4 => ?_⟩
  · obtain ⟨u1, u2⟩ := L (by simp) (by simp) (by simp) b1 b3
    exact ⟨⟨F, u1, b2⟩, u2⟩
  · obtain ⟨u1, u2⟩ := L (by simp) (by simp) (by simp) e1 e3
    exact ⟨⟨F2, u1, e2⟩, u2⟩
  · obtain ⟨⟨u1, u2⟩, u3⟩ := f1 i i0 i9
    exact ⟨L (by simp) (by simp) (by simp) u1 u2, kLt_mv hmv (by simp) (by simp) (by simp) (by simp) u3⟩
  · obtain ⟨u0, ⟨u1, u2⟩, u3⟩ := i1 i hi
    refine ⟨u0, L (by simp) (by simp) (by simp) u1 u2, ?_⟩
    show kLt G h' ow' (gMd γ i) ((List.range (if i = n then aMn A n + 1 else aMn A i)).map (fun (d : Nat) => gDt γ i (d : Int))) _ _
    by_cases ci : i = n
    · subst ci
      rw [if_pos rfl, List.range_succ, List.map_append]
      exact kLt_ow hkeep (kLt_own (t' := (6, i.toNat)) hta haa hed hS')
    · rw [if_neg ci]
      have hni : i.toNat ≠ n.toNat := by omega
      exact kLt_mv hmv (by simp) (by simp [hni]) (by simp) (by simp [hni]) u3
  · have hi0 := (i1 i hi).1
    by_cases cc : i = n ∧ j = (aMn A n : Int)
    · obtain ⟨rfl, rfl⟩ := cc
      exact ⟨⟨hqh, how1⟩, hsh, how2⟩
    · have n1' : j < (aMn A i : Int) := by
        have n9 : j < ((if i = n then aMn A n + 1 else aMn A i : Nat) : Int) := n1
        by_cases ci : i = n
        · rw [if_pos ci] at n9
          have : j ≠ (aMn A n : Int) := fun y => cc ⟨ci, y⟩
          rw [ci]; omega
        · rw [if_neg ci] at n9; exact n9
      obtain ⟨⟨u1, u2⟩, u3, u4⟩ := j1 i j hi n0 n1' n2
      exact ⟨L (by simp) (by simp) (by simp) u1 u2, L (by simp) (by simp) (by simp) u3 u4⟩
  · exact (how3 b (fun y => by rw [y, hqh] at hb; cases hb) (fun y => by rw [y, hsh] at hb; cases hb)).trans (kOw_no hb)
  · have u := lx_at hfr hta har hne (by simp) (by simp) w1 w2
    exact ⟨u.1, (how3 b w3 w4).trans u.2⟩
-- a meeting more
abbrev xNG (γ : kGh) (ow' : Nat → Nat × Nat) (n : Int) (m dl : Nat) : kGh := (ow', γ.2.1, γ.2.2.1, γ.2.2.2.1, (fun i => if i = n then m else gMt γ i), (fun i => if i = n then dl else gMd γ i), γ.2.2.2.2.2.2)
abbrev xNA (A : kAb) (n hst : Int) (ak : Nat) : kAb := (A.1, A.2.1, A.2.2.1, A.2.2.2.1, (fun i => if i = n then hst else aHs A i), (fun i => if i = n then ak else aAk A i), (fun i => if i = n then 0 else aYs A i), (fun i => if i = n then 0 else aNo A i), (fun i => if i = n then 0 else aMn A i), A.2.2.2.2.2.2.2.2.2.1, A.2.2.2.2.2.2.2.2.2.2.1, (fun i => i = n ∨ aLv A i))
theorem ra_NM {hst : Int} {ak m dl : Nat} (z : kRA G h pl γ A) (hn0 : 0 ≤ n) (hm : h m = some (.inr (6, [.int (iI n), .int (iI hst), .int (iI ((ak : Nat) : Int)), .ref dl, .int (iI 0), .int (iI 0)]))) (hm0 : gOw γ m = (0, 0)) (hd : kLs G h dl G.2.2.2 0 []) (hd0 : gOw γ dl = (0, 0)) (hml : n ∉ aMl A) :
    ∃ ow' : Nat → Nat × Nat, kRA G h pl (xNG γ ow' n m dl) (xNA A n hst ak) ∧ ∀ b : Nat, gOw γ b = (0, 0) → b ≠ m → b ≠ dl → ow' b = (0, 0) := by
  obtain ⟨a1, ⟨⟨F, b1, b2⟩, b3⟩, c1, ⟨⟨F2, e1, e2⟩, e3⟩, f1, g1, i1, j1, l1⟩ := z
  obtain ⟨⟨mcd, hdc⟩, -⟩ := id hd
  have hmd : dl ≠ m := kne_ci hdc hm (by decide)
  obtain ⟨ow', how⟩ : ∃ ow' : Nat → Nat × Nat, ow' = fun b => if b = m then (4, n.toNat) else if b = dl then (5, n.toNat) else gOw γ b := ⟨_, rfl⟩
  have how1 : ow' m = (4, n.toNat) := by rw [how]; exact if_pos rfl
  have how2 : ow' dl = (5, n.toNat) := by rw [how]; exact (if_neg hmd).trans (if_pos rfl)
  have how3 : ∀ b, b ≠ m → b ≠ dl → ow' b = gOw γ b := fun b u1 u2 => by rw [how]; exact (if_neg u1).trans (if_neg u2)
  clear how
  have hmv : kMv (fun _ => False) (gOw γ) ow' h h := fun b e hb h0 _ => ⟨hb, how3 b (fun y => h0 (by rw [y]; exact hm0)) (fun y => h0 (by rw [y]; exact hd0))⟩
  have L : ∀ {b : Nat} {t : Nat × Nat} {e : va_E}, t ≠ (0, 0) → h b = some e → gOw γ b = t → h b = some e ∧ ow' b = t := fun h0 h3 h4 => mv_at hmv h0 (fun y => y) h3 h4
  refine ⟨ow', ⟨L (by simp) a1.1 a1.2, ?_, fun r r0 r1 => L (by simp) (c1 r r0 r1).1 (c1 r r0 r1).2, ?_, fun i i0 i9 => ?_, ?_, fun i hi => ?_, fun i j hi n0 n1 n2 => ?_, fun b hb => ?_⟩, fun b w1 w2 w3 => (how3 b w2 w3).trans w1⟩
  · obtain ⟨u1, u2⟩ := L (by simp) b1 b3
    exact ⟨⟨F, u1, b2⟩, u2⟩
  · obtain ⟨u1, u2⟩ := L (by simp) e1 e3
    exact ⟨⟨F2, u1, e2⟩, u2⟩
  · obtain ⟨⟨u1, u2⟩, u3⟩ := f1 i i0 i9
    exact ⟨L (by simp) u1 u2, kLt_mv hmv (by simp) (fun y => y) (by simp) (fun y => y) u3⟩
  · have e : (aMl A).map (fun i => if i = n then m else gMt γ i) = (aMl A).map (gMt γ) := List.map_congr_left fun i hi => if_neg (fun (y : i = n) => hml (y ▸ hi))
    show kLt G h ow' (gMl γ) ((aMl A).map (fun i => if i = n then m else gMt γ i)) _ _
    rw [e]
    exact kLt_mv hmv (by simp) (fun y => y) (by simp) (fun y => y) g1
  · by_cases ci : i = n
    · subst ci
      refine ⟨hn0, ⟨?_, ?_⟩, ?_⟩
      · show h (if i = i then m else gMt γ i) = some (Sum.inr (6, [Value.int (iI i), Value.int (iI (if i = i then hst else aHs A i)), Value.int (iI (((if i = i then ak else aAk A i : Nat) : Nat) : Int)), Value.ref (if i = i then dl else gMd γ i), Value.int (iI (((if i = i then 0 else aYs A i : Nat) : Nat) : Int)), Value.int (iI (((if i = i then 0 else aNo A i : Nat) : Nat) : Int))]))
        rw [if_pos rfl, if_pos rfl, if_pos rfl, if_pos rfl, if_pos rfl, if_pos rfl]
        exact hm
      · show ow' (if i = i then m else gMt γ i) = _
        rw [if_pos rfl]; exact how1
      · show kLt G h ow' (if i = i then dl else gMd γ i) ((List.range (if i = i then 0 else aMn A i)).map _) _ _
        rw [if_pos rfl, if_pos rfl]
        exact ⟨how2, G.2.2.2, 0, hd, Or.inl ⟨rfl, rfl, rfl⟩⟩
    · have hi2 : aLv A i := by
        rcases hi with hi | hi
        · exact absurd hi ci
        · exact hi
      obtain ⟨u0, ⟨u1, u2⟩, u3⟩ := i1 i hi2
      obtain ⟨v1, v2⟩ := L (by simp) u1 u2
      refine ⟨u0, ⟨?_, ?_⟩, ?_⟩
      · show h (if i = n then m else gMt γ i) = some (Sum.inr (6, [Value.int (iI i), Value.int (iI (if i = n then hst else aHs A i)), Value.int (iI (((if i = n then ak else aAk A i : Nat) : Nat) : Int)), Value.ref (if i = n then dl else gMd γ i), Value.int (iI (((if i = n then 0 else aYs A i : Nat) : Nat) : Int)), Value.int (iI (((if i = n then 0 else aNo A i : Nat) : Nat) : Int))]))
        rw [if_neg ci, if_neg ci, if_neg ci, if_neg ci, if_neg ci, if_neg ci]
        exact v1
      · show ow' (if i = n then m else gMt γ i) = _
        rw [if_neg ci]; exact v2
      · show kLt G h ow' (if i = n then dl else gMd γ i) ((List.range (if i = n then 0 else aMn A i)).map (fun (d : Nat) => gDt γ i (d : Int))) _ _
        rw [if_neg ci, if_neg ci]
        exact kLt_mv hmv (by simp) (fun y => y) (by simp) (fun y => y) u3
  · have ci : i ≠ n := fun y => by
      have n9 : j < ((if i = n then 0 else aMn A i : Nat) : Int) := n1
      rw [if_pos y] at n9
      omega
    have hi2 : aLv A i := by
      rcases hi with hi | hi
      · exact absurd hi ci
      · exact hi
    have n9 : j < ((if i = n then 0 else aMn A i : Nat) : Int) := n1
    rw [if_neg ci] at n9
    obtain ⟨⟨u1, u2⟩, u3, u4⟩ := j1 i j hi2 n0 n9 n2
    obtain ⟨v1, v2⟩ := L (by simp) u1 u2
    refine ⟨⟨?_, v2⟩, L (by simp) u3 u4⟩
    show h (gDt γ i j) = some (Sum.inr (4, [Value.ref (if i = n then m else gMt γ i), Value.ref (gSt γ i j), Value.ref (gRm γ (aDt A i j 3)), Value.int (iI (aDt A i j 2))]))
    rw [if_neg ci]
    exact v1
  · exact (how3 b (fun y => by rw [y, hm] at hb; cases hb) (fun y => by rw [y, hdc] at hb; cases hb)).trans (l1 b hb)
end KNW
