/-! ===== the class: sums and shares, walked ===== -/
theorem ksm_mul (f : Nat → Int) (x : Int) : ∀ n : Nat, ksm f n * x = ksm (fun i => f i * x) n
  | 0 => by rw [ksm, ksm, Int.zero_mul]
  | n + 1 => by
    show (ksm f n + f n) * x = ksm (fun i => f i * x) n + f n * x
    rw [Int.add_mul, ksm_mul f x n]
theorem i2l_of {z : Int} (h0 : -2147483648 ≤ z) (h1 : z < 2147483648) : (iI z).toInt64 = Int64.ofInt z := by
  rw [← Int64.toInt_inj, Int32.toInt_toInt64, iI_toInt h0 h1, Int64.toInt_ofInt_of_le (by omega) (by omega)]
theorem st_eq {f : Nat → Int} {m : Int} : ksm (fun d => kI (onF f m (d : Int)) (oF f m 2) 0) (oF f m 3).toNat * kpo (ppF f m) 6 = ksm (fun d => kI (onF f m (d : Int)) (oF f m 2 * kpo (ppF f m) 6) 0) (oF f m 3).toNat := by
  rw [ksm_mul]
  refine ksm_cg fun i _ => ?_
  by_cases c : onF f m (i : Int)
  · rw [kI_t c, kI_t c]
  · rw [kI_f c, kI_f c, Int.zero_mul]
theorem ys_eq {G : kG} {h : kAH} {pl : Nat} {γ : kGh} {A : kAb} {f : Nat → Int} (q : kRp G h pl γ A f) {m : Int} (h0 : 0 ≤ m) (h1 : m < f 1) : kpo (aYs A (oF f m 0)) 6 = ksm (fun p => kB (oF f m (4 + (p : Int)) = 121)) 6 ∧ kpo (aYs A (oF f m 0)) 6 + kpo (aNo A (oF f m 0)) 6 = ksm (fun p => kB (oF f m (4 + (p : Int)) = 121 ∨ oF f m (4 + (p : Int)) = 110)) 6 := by
  obtain ⟨-, -, -, x⟩ := rp_Mx q h0 h1
  have key : ∀ n : Nat, n ≤ 6 → kpo (aYs A (oF f m 0)) n = ksm (fun p => kB (oF f m (4 + (p : Int)) = 121)) n ∧ kpo (aYs A (oF f m 0)) n + kpo (aNo A (oF f m 0)) n = ksm (fun p => kB (oF f m (4 + (p : Int)) = 121 ∨ oF f m (4 + (p : Int)) = 110)) n := by
    intro n hn
    induction n with
    | zero => exact ⟨rfl, rfl⟩
    | succ n ih =>
      obtain ⟨i1, i2⟩ := ih (by omega)
      obtain ⟨-, x2, x3⟩ := x n (by omega)
      have u1 : kpo (aYs A (oF f m 0)) (n + 1) = kpo (aYs A (oF f m 0)) n + kB (oF f m (4 + (n : Int)) = 121) := by rw [kpo, kIl x2.symm]
      have u2 : kpo (aNo A (oF f m 0)) (n + 1) = kpo (aNo A (oF f m 0)) n + kB (oF f m (4 + (n : Int)) = 110) := by rw [kpo, kIl x3.symm]
      have u3 : kB (oF f m (4 + (n : Int)) = 121) + kB (oF f m (4 + (n : Int)) = 110) = kB (oF f m (4 + (n : Int)) = 121 ∨ oF f m (4 + (n : Int)) = 110) := by
        by_cases c : oF f m (4 + (n : Int)) = 121
        · rw [kB_t c, kB_f (show ¬ oF f m (4 + (n : Int)) = 110 by omega), kB_t (Or.inl c)]; rfl
        · rw [kB_f c]
          by_cases c2 : oF f m (4 + (n : Int)) = 110
          · rw [kB_t c2, kB_t (Or.inr c2)]; rfl
          · rw [kB_f c2, kB_f (fun z => by rcases z with z | z; exact c z; exact c2 z)]; rfl
      have v1 : ksm (fun p => kB (oF f m (4 + (p : Int)) = 121)) (n + 1) = ksm (fun p => kB (oF f m (4 + (p : Int)) = 121)) n + kB (oF f m (4 + (n : Int)) = 121) := rfl
      have v2 : ksm (fun p => kB (oF f m (4 + (p : Int)) = 121 ∨ oF f m (4 + (p : Int)) = 110)) (n + 1) = ksm (fun p => kB (oF f m (4 + (p : Int)) = 121 ∨ oF f m (4 + (p : Int)) = 110)) n + kB (oF f m (4 + (n : Int)) = 121 ∨ oF f m (4 + (n : Int)) = 110) := rfl
      rw [u1, u2, v1, v2]
      omega
  exact key 6 (Nat.le_refl _)
theorem w_mst {l : Launch} {G : kG} {h : kAH} (hl : l.stackTraces = false) {pl : Nat} {γ : kGh} {A : kAb} {f : Nat → Int} (hC : kRp G h pl γ A f) {m : Int} (hm0 : 0 ≤ m) (hm1 : m < f 1) : kC l G m_X2_standingTimes 4 0 0 [.ref (gMt γ (oF f m 0))] h (kPq (.int (iI (ksm (fun d => kI (onF f m (d : Int)) (oF f m 2) 0) (oF f m 3).toNat))) h) kNo := by
  refine kC_of hl rfl rfl (Nat.le_of_ble_eq_true rfl) (L := [some (.ref (gMt γ (oF f m 0))), none, none, none]) rfl ?_
  have hmm := kWf_m hC.2.2 (m := m) hm0 hm1
  have hmx := rp_Mx hC (m := m) hm0 hm1
  obtain ⟨arE, cE, hMd⟩ := rp_Md hC (m := m) hm0 hm1
  obtain ⟨mcE, hMe⟩ := hMd.1
  refine k_iconst (pc1 := 1) dX2_standingTimes_0 rfl ?_
  refine k_istore_n (pc1 := 2) dX2_standingTimes_1 rfl (by decide) (k_loc (L' := [some (.ref (gMt γ (oF f m 0))), some (.int (iI 0)), none, none]) rfl ?_)
  refine k_iconst (pc1 := 3) dX2_standingTimes_2 rfl ?_
  refine k_istore_n (pc1 := 4) dX2_standingTimes_3 rfl (by decide) (k_loc (L' := [some (.ref (gMt γ (oF f m 0))), some (.int (iI 0)), some (.int (iI 0)), none]) rfl ?_)
  have hloop4 : ∀ (zz : Nat) (i : Nat), zz = (oF f m 3 - ((i : Nat) : Int)).toNat → (((i : Nat) : Int) ≤ oF f m 3) → kW l G m_X2_standingTimes 4 (kPq (.int (iI (ksm (fun d => kI (onF f m (d : Int)) (oF f m 2) 0) (oF f m 3).toNat))) h) kNo 0 0 4 [some (.ref (gMt γ (oF f m 0))), some (.int (iI (ksm (fun d => kI (onF f m (d : Int)) (oF f m 2) 0) i))), some (.int (iI ((i : Nat) : Int))), none] [] h := by
    intro zz
    induction zz using Nat.strongRecOn with
    | ind zz ih4 =>
    intro i hr4 hi9
    refine k_iload_n (pc1 := 5) dX2_standingTimes_4 rfl rfl ?_
    refine k_aload_n (pc1 := 6) dX2_standingTimes_5 rfl rfl ?_
    refine k_get (pc1 := 9) dX2_standingTimes_6 rfl fd_RX2_24 (rp_M hC (m := m) hm0 hm1) (v := .ref (gMd γ (oF f m 0))) rfl ?_
    refine k_callVP dX2_standingTimes_9 rfl lk_RX2_51 o_Jx4a65c_size_8abf5 (w_lsz hl hMd) (as := []) hMe rfl rfl rfl rfl (by decide) (by decide) (k8 rfl) ?_
    refine k_val (v' := .int (iI (oF f m 3))) (congrArg (fun z : Int => Value.int (iI z)) (by rw [List.length_map, List.length_range]; omega)) ?_
    refine k_icmp_ge (a := ((i : Nat) : Int)) (b := (oF f m 3)) dX2_standingTimes_12 rfl (tgt := 50) rfl (by omega) (by omega) (fun c12 : (oF f m 3) ≤ ((i : Nat) : Int) => ?_) (fun c12 : ((i : Nat) : Int) < (oF f m 3) => ?_)
    · skip
      refine k_iload_n (pc1 := 51) dX2_standingTimes_50 rfl rfl ?_
      have e : i = (oF f m 3).toNat := by omega
      subst e
      exact k_iret dX2_standingTimes_51 rfl rfl (kret rfl _)
    · skip
      have hi : inP f m ((i : Nat) : Int) := ⟨hm0, hm1, by omega, by omega⟩
      have hmd := kWf_d hC.2.2 hi.1 hi.2.1 hi.2.2.1 hi.2.2.2
      have hon : onF f m ((i : Nat) : Int) ↔ dF f m ((i : Nat) : Int) 2 = 0 := Iff.rfl
      clear hon
      refine k_aload_n (pc1 := 16) dX2_standingTimes_15 rfl rfl ?_
      refine k_get (pc1 := 19) dX2_standingTimes_16 rfl fd_RX2_24 (rp_M hC hi.1 hi.2.1) (v := .ref (gMd γ (oF f m 0))) rfl ?_
      refine k_iload_n (pc1 := 20) dX2_standingTimes_19 rfl rfl ?_
      refine k_callVP dX2_standingTimes_20 rfl lk_RX2_54 o_Jx4a65c_get_915e3 (w_lgt hl hMd ((i : Nat) : Int) ⟨by omega, by rw [List.length_map, List.length_range]; omega⟩ (by rw [List.getElem?_map, List.getElem?_range (by omega)]; show some (gDt γ (oF f m 0) ((Int.toNat ((i : Nat) : Int) : Nat) : Int)) = _; rw [Int.toNat_of_nonneg (by omega)])) (as := [.int (iI ((i : Nat) : Int))]) hMe rfl rfl rfl rfl (by decide) (by decide) (k8 rfl) ?_
      refine k_cast (r := (RX0, TX0, 4)) (pc1 := 26) dX2_standingTimes_23 rfl cl_RX2_58 (rp_D hC hi) rfl ?_
      refine k_astore_n (pc1 := 27) dX2_standingTimes_26 rfl (by decide) (k_loc (L' := [some (.ref (gMt γ (oF f m 0))), some (.int (iI (ksm (fun d => kI (onF f m (d : Int)) (oF f m 2) 0) i))), some (.int (iI ((i : Nat) : Int))), some (.ref (gDt γ (oF f m 0) ((i : Nat) : Int)))]) rfl ?_)
      refine k_aload_n (pc1 := 28) dX2_standingTimes_27 rfl rfl ?_
      refine k_get (pc1 := 31) dX2_standingTimes_28 rfl fd_RX2_60 (rp_D hC hi) (v := .int (iI (dF f m ((i : Nat) : Int) 2))) rfl ?_
      refine k_if_ne (a := (dF f m ((i : Nat) : Int) 2)) dX2_standingTimes_31 rfl (tgt := 44) rfl (by omega) (fun c31 : (dF f m ((i : Nat) : Int) 2) ≠ 0 => ?_) (fun c31 : (dF f m ((i : Nat) : Int) 2) = 0 => ?_)
      · skip
        refine k_iinc (a := ((i : Nat) : Int)) (pc1 := 47) dX2_standingTimes_44 rfl rfl (by decide) (k_loc (L' := [some (.ref (gMt γ (oF f m 0))), some (.int (iI (ksm (fun d => kI (onF f m (d : Int)) (oF f m 2) 0) i))), some (.int (iI (((i : Nat) : Int) + 1))), some (.ref (gDt γ (oF f m 0) ((i : Nat) : Int)))]) rfl ?_)
        refine k_goto dX2_standingTimes_47 (tgt := 4) rfl ?_
        refine k_forget 3 (k_loc (L' := [some (.ref (gMt γ (oF f m 0))), some (.int (iI (ksm (fun d => kI (onF f m (d : Int)) (oF f m 2) 0) i))), some (.int (iI (((i : Nat) : Int) + 1))), none]) rfl ?_)
        have e : (ksm (fun d => kI (onF f m (d : Int)) (oF f m 2) 0) (i + 1)) = (ksm (fun d => kI (onF f m (d : Int)) (oF f m 2) 0) i) := (congrArg (fun z => (ksm (fun d => kI (onF f m (d : Int)) (oF f m 2) 0) i) + z) (kI_f (show ¬ dF f m ((i : Nat) : Int) 2 = 0 by omega))).trans (Int.add_zero _)
        refine k_loc (L' := [some (.ref (gMt γ (oF f m 0))), some (.int (iI (ksm (fun d => kI (onF f m (d : Int)) (oF f m 2) 0) (i + 1)))), some (.int (iI (((i : Nat) : Int) + 1))), none]) (by rw [e]) ?_
        exact ih4 _ (by omega) (i + 1) rfl (by omega)
      · skip
        refine k_iload_n (pc1 := 35) dX2_standingTimes_34 rfl rfl ?_
        refine k_aload_n (pc1 := 36) dX2_standingTimes_35 rfl rfl ?_
        refine k_get (pc1 := 39) dX2_standingTimes_36 rfl fd_RX2_64 (rp_D hC hi) (v := .ref (gSt γ (oF f m 0) ((i : Nat) : Int))) rfl ?_
        refine k_get (pc1 := 42) dX2_standingTimes_39 rfl fd_RX2_68 (rp_S hC hi) (v := .int (iI (oF f m 2))) rfl ?_
        refine k_iadd (a := (ksm (fun d => kI (onF f m (d : Int)) (oF f m 2) 0) i)) (b := (oF f m 2)) (pc1 := 43) dX2_standingTimes_42 rfl ?_
        refine k_istore_n (pc1 := 44) dX2_standingTimes_43 rfl (by decide) (k_loc (L' := [some (.ref (gMt γ (oF f m 0))), some (.int (iI ((ksm (fun d => kI (onF f m (d : Int)) (oF f m 2) 0) i) + (oF f m 2)))), some (.int (iI ((i : Nat) : Int))), some (.ref (gDt γ (oF f m 0) ((i : Nat) : Int)))]) rfl ?_)
        refine k_iinc (a := ((i : Nat) : Int)) (pc1 := 47) dX2_standingTimes_44 rfl rfl (by decide) (k_loc (L' := [some (.ref (gMt γ (oF f m 0))), some (.int (iI ((ksm (fun d => kI (onF f m (d : Int)) (oF f m 2) 0) i) + (oF f m 2)))), some (.int (iI (((i : Nat) : Int) + 1))), some (.ref (gDt γ (oF f m 0) ((i : Nat) : Int)))]) rfl ?_)
        refine k_goto dX2_standingTimes_47 (tgt := 4) rfl ?_
        refine k_forget 3 (k_loc (L' := [some (.ref (gMt γ (oF f m 0))), some (.int (iI ((ksm (fun d => kI (onF f m (d : Int)) (oF f m 2) 0) i) + (oF f m 2)))), some (.int (iI (((i : Nat) : Int) + 1))), none]) rfl ?_)
        have e : (ksm (fun d => kI (onF f m (d : Int)) (oF f m 2) 0) (i + 1)) = ((ksm (fun d => kI (onF f m (d : Int)) (oF f m 2) 0) i) + (oF f m 2)) := congrArg (fun z => (ksm (fun d => kI (onF f m (d : Int)) (oF f m 2) 0) i) + z) (kI_t (show dF f m ((i : Nat) : Int) 2 = 0 by omega))
        refine k_loc (L' := [some (.ref (gMt γ (oF f m 0))), some (.int (iI (ksm (fun d => kI (onF f m (d : Int)) (oF f m 2) 0) (i + 1)))), some (.int (iI (((i : Nat) : Int) + 1))), none]) (by rw [e]) ?_
        exact ih4 _ (by omega) (i + 1) rfl (by omega)
  exact hloop4 _ 0 rfl (by omega)
theorem w_msd {l : Launch} {G : kG} {h : kAH} (hl : l.stackTraces = false) {pl : Nat} {γ : kGh} {A : kAb} {f : Nat → Int} (hC : kRp G h pl γ A f) {m : Int} (hm0 : 0 ≤ m) (hm1 : m < f 1) : kC l G m_X2_standingDates 4 0 0 [.ref (gMt γ (oF f m 0))] h (kPq (.int (iI (ksm (fun d => kB (onF f m (d : Int))) (oF f m 3).toNat))) h) kNo := by
  refine kC_of hl rfl rfl (Nat.le_of_ble_eq_true rfl) (L := [some (.ref (gMt γ (oF f m 0))), none, none]) rfl ?_
  have hmm := kWf_m hC.2.2 (m := m) hm0 hm1
  have hmx := rp_Mx hC (m := m) hm0 hm1
  obtain ⟨arE, cE, hMd⟩ := rp_Md hC (m := m) hm0 hm1
  obtain ⟨mcE, hMe⟩ := hMd.1
  refine k_iconst (pc1 := 1) dX2_standingDates_0 rfl ?_
  refine k_istore_n (pc1 := 2) dX2_standingDates_1 rfl (by decide) (k_loc (L' := [some (.ref (gMt γ (oF f m 0))), some (.int (iI 0)), none]) rfl ?_)
  refine k_iconst (pc1 := 3) dX2_standingDates_2 rfl ?_
  refine k_istore_n (pc1 := 4) dX2_standingDates_3 rfl (by decide) (k_loc (L' := [some (.ref (gMt γ (oF f m 0))), some (.int (iI 0)), some (.int (iI 0))]) rfl ?_)
  have hloop4 : ∀ (zz : Nat) (i : Nat), zz = (oF f m 3 - ((i : Nat) : Int)).toNat → (((i : Nat) : Int) ≤ oF f m 3) → kW l G m_X2_standingDates 4 (kPq (.int (iI (ksm (fun d => kB (onF f m (d : Int))) (oF f m 3).toNat))) h) kNo 0 0 4 [some (.ref (gMt γ (oF f m 0))), some (.int (iI (ksm (fun d => kB (onF f m (d : Int))) i))), some (.int (iI ((i : Nat) : Int)))] [] h := by
    intro zz
    induction zz using Nat.strongRecOn with
    | ind zz ih4 =>
    intro i hr4 hi9
    refine k_iload_n (pc1 := 5) dX2_standingDates_4 rfl rfl ?_
    refine k_aload_n (pc1 := 6) dX2_standingDates_5 rfl rfl ?_
    refine k_get (pc1 := 9) dX2_standingDates_6 rfl fd_RX2_24 (rp_M hC (m := m) hm0 hm1) (v := .ref (gMd γ (oF f m 0))) rfl ?_
    refine k_callVP dX2_standingDates_9 rfl lk_RX2_51 o_Jx4a65c_size_8abf5 (w_lsz hl hMd) (as := []) hMe rfl rfl rfl rfl (by decide) (by decide) (k8 rfl) ?_
    refine k_val (v' := .int (iI (oF f m 3))) (congrArg (fun z : Int => Value.int (iI z)) (by rw [List.length_map, List.length_range]; omega)) ?_
    refine k_icmp_ge (a := ((i : Nat) : Int)) (b := (oF f m 3)) dX2_standingDates_12 rfl (tgt := 41) rfl (by omega) (by omega) (fun c12 : (oF f m 3) ≤ ((i : Nat) : Int) => ?_) (fun c12 : ((i : Nat) : Int) < (oF f m 3) => ?_)
    · skip
      refine k_iload_n (pc1 := 42) dX2_standingDates_41 rfl rfl ?_
      have e : i = (oF f m 3).toNat := by omega
      subst e
      exact k_iret dX2_standingDates_42 rfl rfl (kret rfl _)
    · skip
      have hi : inP f m ((i : Nat) : Int) := ⟨hm0, hm1, by omega, by omega⟩
      have hmd := kWf_d hC.2.2 hi.1 hi.2.1 hi.2.2.1 hi.2.2.2
      have hon : onF f m ((i : Nat) : Int) ↔ dF f m ((i : Nat) : Int) 2 = 0 := Iff.rfl
      clear hon
      refine k_aload_n (pc1 := 16) dX2_standingDates_15 rfl rfl ?_
      refine k_get (pc1 := 19) dX2_standingDates_16 rfl fd_RX2_24 (rp_M hC hi.1 hi.2.1) (v := .ref (gMd γ (oF f m 0))) rfl ?_
      refine k_iload_n (pc1 := 20) dX2_standingDates_19 rfl rfl ?_
      refine k_callVP dX2_standingDates_20 rfl lk_RX2_54 o_Jx4a65c_get_915e3 (w_lgt hl hMd ((i : Nat) : Int) ⟨by omega, by rw [List.length_map, List.length_range]; omega⟩ (by rw [List.getElem?_map, List.getElem?_range (by omega)]; show some (gDt γ (oF f m 0) ((Int.toNat ((i : Nat) : Int) : Nat) : Int)) = _; rw [Int.toNat_of_nonneg (by omega)])) (as := [.int (iI ((i : Nat) : Int))]) hMe rfl rfl rfl rfl (by decide) (by decide) (k8 rfl) ?_
      refine k_cast (r := (RX0, TX0, 4)) (pc1 := 26) dX2_standingDates_23 rfl cl_RX2_58 (rp_D hC hi) rfl ?_
      refine k_get (pc1 := 29) dX2_standingDates_26 rfl fd_RX2_60 (rp_D hC hi) (v := .int (iI (dF f m ((i : Nat) : Int) 2))) rfl ?_
      refine k_if_ne (a := (dF f m ((i : Nat) : Int) 2)) dX2_standingDates_29 rfl (tgt := 35) rfl (by omega) (fun c29 : (dF f m ((i : Nat) : Int) 2) ≠ 0 => ?_) (fun c29 : (dF f m ((i : Nat) : Int) 2) = 0 => ?_)
      · skip
        refine k_iinc (a := ((i : Nat) : Int)) (pc1 := 38) dX2_standingDates_35 rfl rfl (by decide) (k_loc (L' := [some (.ref (gMt γ (oF f m 0))), some (.int (iI (ksm (fun d => kB (onF f m (d : Int))) i))), some (.int (iI (((i : Nat) : Int) + 1)))]) rfl ?_)
        refine k_goto dX2_standingDates_38 (tgt := 4) rfl ?_
        have e : (ksm (fun d => kB (onF f m (d : Int))) (i + 1)) = (ksm (fun d => kB (onF f m (d : Int))) i) := (congrArg (fun z => (ksm (fun d => kB (onF f m (d : Int))) i) + z) (kB_f (show ¬ dF f m ((i : Nat) : Int) 2 = 0 by omega))).trans (Int.add_zero _)
        refine k_loc (L' := [some (.ref (gMt γ (oF f m 0))), some (.int (iI (ksm (fun d => kB (onF f m (d : Int))) (i + 1)))), some (.int (iI (((i : Nat) : Int) + 1)))]) (by rw [e]) ?_
        exact ih4 _ (by omega) (i + 1) rfl (by omega)
      · skip
        refine k_iinc (a := (ksm (fun d => kB (onF f m (d : Int))) i)) (pc1 := 35) dX2_standingDates_32 rfl rfl (by decide) (k_loc (L' := [some (.ref (gMt γ (oF f m 0))), some (.int (iI ((ksm (fun d => kB (onF f m (d : Int))) i) + 1))), some (.int (iI ((i : Nat) : Int)))]) rfl ?_)
        refine k_iinc (a := ((i : Nat) : Int)) (pc1 := 38) dX2_standingDates_35 rfl rfl (by decide) (k_loc (L' := [some (.ref (gMt γ (oF f m 0))), some (.int (iI ((ksm (fun d => kB (onF f m (d : Int))) i) + 1))), some (.int (iI (((i : Nat) : Int) + 1)))]) rfl ?_)
        refine k_goto dX2_standingDates_38 (tgt := 4) rfl ?_
        have e : (ksm (fun d => kB (onF f m (d : Int))) (i + 1)) = ((ksm (fun d => kB (onF f m (d : Int))) i) + 1) := congrArg (fun z => (ksm (fun d => kB (onF f m (d : Int))) i) + z) (kB_t (show dF f m ((i : Nat) : Int) 2 = 0 by omega))
        refine k_loc (L' := [some (.ref (gMt γ (oF f m 0))), some (.int (iI (ksm (fun d => kB (onF f m (d : Int))) (i + 1)))), some (.int (iI (((i : Nat) : Int) + 1)))]) (by rw [e]) ?_
        exact ih4 _ (by omega) (i + 1) rfl (by omega)
  exact hloop4 _ 0 rfl (by omega)
theorem stF_r {f : Nat → Int} (hW : kWf f) : 0 ≤ stF f ∧ stF f ≤ 2000 := by
  have hc := kWf_cnt hW
  have h := ksm_rng (f := fun m => ksm (fun d => kI (onF f (m : Int) (d : Int)) (oF f (m : Int) 2 * kpo (ppF f (m : Int)) 6) 0) (oF f (m : Int) 3).toNat) (n := (f 1).toNat) (lo := 0) (hi := 216) (fun m hm => by
    have g := kWf_m hW (m := (m : Int)) (by omega) (by omega)
    have k6 := kpo_rng (ppF f (m : Int)) 6
    have u : 0 ≤ oF f (m : Int) 2 * kpo (ppF f (m : Int)) 6 ∧ oF f (m : Int) 2 * kpo (ppF f (m : Int)) 6 ≤ 36 := by
      have a1 : 0 ≤ oF f (m : Int) 2 * kpo (ppF f (m : Int)) 6 := Int.mul_nonneg (by omega) k6.1
      have a2 : oF f (m : Int) 2 * kpo (ppF f (m : Int)) 6 ≤ 6 * kpo (ppF f (m : Int)) 6 := Int.mul_le_mul_of_nonneg_right (by omega) k6.1
      omega
    have v := ksm_rng (f := fun d => kI (onF f (m : Int) (d : Int)) (oF f (m : Int) 2 * kpo (ppF f (m : Int)) 6) 0) (n := (oF f (m : Int) 3).toNat) (lo := 0) (hi := 36) (fun d _ => by
      by_cases c : onF f (m : Int) (d : Int)
      · rw [kI_t c]; exact u
      · rw [kI_f c]; decide)
    omega)
  unfold stF
  omega
theorem st1_r {f : Nat → Int} (hW : kWf f) {m : Int} (h0 : 0 ≤ m) (h1 : m < f 1) : 0 ≤ ksm (fun d => kI (onF f m (d : Int)) (oF f m 2) 0) (oF f m 3).toNat ∧ ksm (fun d => kI (onF f m (d : Int)) (oF f m 2) 0) (oF f m 3).toNat ≤ 36 := by
  have g := kWf_m hW h0 h1
  have v := ksm_rng (f := fun d => kI (onF f m (d : Int)) (oF f m 2) 0) (n := (oF f m 3).toNat) (lo := 0) (hi := 6) (fun d _ => by
    by_cases c : onF f m (d : Int)
    · rw [kI_t c]; omega
    · rw [kI_f c]; decide)
  omega
theorem w_X5_sittings {l : Launch} {G : kG} {h : kAH} (hl : l.stackTraces = false) {pl : Nat} {γ : kGh} {A : kAb} {f : Nat → Int} (hC : kRp G h pl γ A f) : kC l G m_X5_sittings 5 0 0 [.ref pl] h (kPq (.long (Int32.toInt64 (iI (stF f)))) h) kNo := by
  refine kC_of hl rfl rfl (Nat.le_of_ble_eq_true rfl) (L := [some (.ref pl), none, none, none, none]) rfl ?_
  obtain ⟨arM, cM, hMl⟩ := rp_Ml hC
  obtain ⟨mcM, hMa⟩ := hMl.1
  have h8 := kWf_cnt hC.2.2
  refine k_lconst (pc1 := 1) dX5_sittings_0 rfl (k_val (v' := .long (Int64.ofInt 0)) rfl ?_)
  refine k_lstore_n (pc1 := 2) dX5_sittings_1 rfl (by decide) (k_loc (L' := [some (.ref pl), some (.long (Int64.ofInt 0)), none, none, none]) rfl ?_)
  refine k_iconst (pc1 := 3) dX5_sittings_2 rfl ?_
  refine k_istore_n (pc1 := 4) dX5_sittings_3 rfl (by decide) (k_loc (L' := [some (.ref pl), some (.long (Int64.ofInt 0)), none, some (.int (iI 0)), none]) rfl ?_)
  have hloop4 : ∀ (zz : Nat) (i : Nat), zz = (f 1 - ((i : Nat) : Int)).toNat → (((i : Nat) : Int) ≤ f 1) → kW l G m_X5_sittings 5 (kPq (.long (Int32.toInt64 (iI (stF f)))) h) kNo 0 0 4 [some (.ref pl), some (.long (Int64.ofInt (ksm (fun m => ksm (fun d => kI (onF f (m : Int) (d : Int)) (oF f (m : Int) 2 * kpo (ppF f (m : Int)) 6) 0) (oF f (m : Int) 3).toNat) i))), none, some (.int (iI ((i : Nat) : Int))), none] [] h := by
    intro zz
    induction zz using Nat.strongRecOn with
    | ind zz ih4 =>
    intro i hr4 hi9
    refine k_iload_n (pc1 := 5) dX5_sittings_4 rfl rfl ?_
    refine k_aload_n (pc1 := 6) dX5_sittings_5 rfl rfl ?_
    refine k_get (pc1 := 9) dX5_sittings_6 rfl fd_RX5_28 (rp_P hC) (v := .ref (gMl γ)) rfl ?_
    refine k_callVP dX5_sittings_9 rfl lk_RX5_65 o_Jx4a65c_size_8abf5 (w_lsz hl hMl) (as := []) hMa rfl rfl rfl rfl (by decide) (by decide) (k8 rfl) ?_
    refine k_val (v' := .int (iI (f 1))) (congrArg (fun z : Int => Value.int (iI z)) (by rw [List.length_map, List.length_range]; omega)) ?_
    refine k_icmp_ge (a := ((i : Nat) : Int)) (b := (f 1)) dX5_sittings_12 rfl (tgt := 50) rfl (by omega) (by omega) (fun c12 : (f 1) ≤ ((i : Nat) : Int) => ?_) (fun c12 : ((i : Nat) : Int) < (f 1) => ?_)
    · skip
      refine k_lload_n (pc1 := 51) dX5_sittings_50 rfl rfl ?_
      have ei : i = (f 1).toNat := by omega
      subst ei
      have hst : 0 ≤ (ksm (fun m => ksm (fun d => kI (onF f (m : Int) (d : Int)) (oF f (m : Int) 2 * kpo (ppF f (m : Int)) 6) 0) (oF f (m : Int) 3).toNat) (f 1).toNat) ∧ (ksm (fun m => ksm (fun d => kI (onF f (m : Int) (d : Int)) (oF f (m : Int) 2 * kpo (ppF f (m : Int)) 6) 0) (oF f (m : Int) 3).toNat) (f 1).toNat) ≤ 2000 := stF_r hC.2.2
      exact k_lret dX5_sittings_51 rfl ⟨congrArg (fun z => some (Value.long z)) (i2l_of (z := (ksm (fun m => ksm (fun d => kI (onF f (m : Int) (d : Int)) (oF f (m : Int) 2 * kpo (ppF f (m : Int)) 6) 0) (oF f (m : Int) 3).toNat) (f 1).toNat)) (by omega) (by omega)).symm, rfl⟩
    · skip
      refine k_aload_n (pc1 := 16) dX5_sittings_15 rfl rfl ?_
      refine k_get (pc1 := 19) dX5_sittings_16 rfl fd_RX5_28 (rp_P hC) (v := .ref (gMl γ)) rfl ?_
      refine k_iload_n (pc1 := 20) dX5_sittings_19 rfl rfl ?_
      refine k_callVP dX5_sittings_20 rfl lk_RX5_131 o_Jx4a65c_get_915e3 (w_lgt hl hMl ((i : Nat) : Int) ⟨by omega, by rw [List.length_map, List.length_range]; omega⟩ (by rw [List.getElem?_map, List.getElem?_range (by omega)]; show some (gMt γ (oF f ((Int.toNat ((i : Nat) : Int) : Nat) : Int) 0)) = _; rw [Int.toNat_of_nonneg (by omega)])) (as := [.int (iI ((i : Nat) : Int))]) hMa rfl rfl rfl rfl (by decide) (by decide) (k8 rfl) ?_
      have hmm := kWf_m hC.2.2 (m := ((i : Nat) : Int)) (by omega) (by omega)
      have hmx := rp_Mx hC (m := ((i : Nat) : Int)) (by omega) (by omega)
      obtain ⟨arE, cE, hMd⟩ := rp_Md hC (m := ((i : Nat) : Int)) (by omega) (by omega)
      obtain ⟨mcE, hMe⟩ := hMd.1
      refine k_cast (r := (RX2, TX2, 6)) (pc1 := 26) dX5_sittings_23 rfl cl_RX5_76 (rp_M hC (m := ((i : Nat) : Int)) (by omega) (by omega)) rfl ?_
      refine k_astore (pc1 := 28) dX5_sittings_26 rfl (by decide) (k_loc (L' := [some (.ref pl), some (.long (Int64.ofInt (ksm (fun m => ksm (fun d => kI (onF f (m : Int) (d : Int)) (oF f (m : Int) 2 * kpo (ppF f (m : Int)) 6) 0) (oF f (m : Int) 3).toNat) i))), none, some (.int (iI ((i : Nat) : Int))), some (.ref (gMt γ (oF f ((i : Nat) : Int) 0)))]) rfl ?_)
      refine k_lload_n (pc1 := 29) dX5_sittings_28 rfl rfl ?_
      refine k_aload (pc1 := 31) dX5_sittings_29 rfl rfl ?_
      refine k_callVP dX5_sittings_31 rfl lk_RX5_251 o_X2_standingTimes (w_mst hl hC (m := ((i : Nat) : Int)) (by omega) (by omega)) (as := []) (rp_M hC (m := ((i : Nat) : Int)) (by omega) (by omega)) rfl rfl rfl rfl (by decide) (by decide) (k8 rfl) ?_
      have hq1 := st1_r hC.2.2 (m := ((i : Nat) : Int)) (by omega) (by omega)
      refine k_i2l (pc1 := 35) dX5_sittings_34 rfl (k_val (v' := .long (Int64.ofInt (ksm (fun d => kI (onF f ((i : Nat) : Int) (d : Int)) (oF f ((i : Nat) : Int) 2) 0) (oF f ((i : Nat) : Int) 3).toNat))) (congrArg Value.long (i2l_of (by omega) (by omega))) ?_)
      refine k_aload (pc1 := 37) dX5_sittings_35 rfl rfl ?_
      refine k_callVP dX5_sittings_37 rfl lk_RX5_206 o_X2_expectedCount (w_X2_expectedCount hl (rp_M hC (m := ((i : Nat) : Int)) (by omega) (by omega)) ⟨by omega, by omega⟩ hmx.1 hmx.2.1 hmx.2.2.1) (as := []) (rp_M hC (m := ((i : Nat) : Int)) (by omega) (by omega)) rfl rfl rfl rfl (by decide) (by decide) (k8 rfl) ?_
      refine k_val (v' := .int (iI (kpo (ppF f ((i : Nat) : Int)) 6))) (congrArg (fun z => Value.int (iI (kpo z 6))) (rp_ex hC (m := ((i : Nat) : Int)) (by omega) (by omega))) ?_
      have hq2 := kpo_rng (ppF f ((i : Nat) : Int)) 6
      refine k_i2l (pc1 := 41) dX5_sittings_40 rfl (k_val (v' := .long (Int64.ofInt (kpo (ppF f ((i : Nat) : Int)) 6))) (congrArg Value.long (i2l_of (by omega) (by omega))) ?_)
      refine k_lmul (pc1 := 42) dX5_sittings_41 rfl (k_val (v' := .long (Int64.ofInt ((ksm (fun d => kI (onF f ((i : Nat) : Int) (d : Int)) (oF f ((i : Nat) : Int) 2) 0) (oF f ((i : Nat) : Int) 3).toNat) * (kpo (ppF f ((i : Nat) : Int)) 6)))) (congrArg Value.long (Int64.ofInt_mul _ _).symm) ?_)
      refine k_ladd (pc1 := 43) dX5_sittings_42 rfl (k_val (v' := .long (Int64.ofInt ((ksm (fun m => ksm (fun d => kI (onF f (m : Int) (d : Int)) (oF f (m : Int) 2 * kpo (ppF f (m : Int)) 6) 0) (oF f (m : Int) 3).toNat) i) + ((ksm (fun d => kI (onF f ((i : Nat) : Int) (d : Int)) (oF f ((i : Nat) : Int) 2) 0) (oF f ((i : Nat) : Int) 3).toNat) * (kpo (ppF f ((i : Nat) : Int)) 6))))) (congrArg Value.long (Int64.ofInt_add _ _).symm) ?_)
      refine k_lstore_n (pc1 := 44) dX5_sittings_43 rfl (by decide) (k_loc (L' := [some (.ref pl), some (.long (Int64.ofInt ((ksm (fun m => ksm (fun d => kI (onF f (m : Int) (d : Int)) (oF f (m : Int) 2 * kpo (ppF f (m : Int)) 6) 0) (oF f (m : Int) 3).toNat) i) + ((ksm (fun d => kI (onF f ((i : Nat) : Int) (d : Int)) (oF f ((i : Nat) : Int) 2) 0) (oF f ((i : Nat) : Int) 3).toNat) * (kpo (ppF f ((i : Nat) : Int)) 6))))), none, some (.int (iI ((i : Nat) : Int))), some (.ref (gMt γ (oF f ((i : Nat) : Int) 0)))]) rfl ?_)
      refine k_iinc (a := ((i : Nat) : Int)) (pc1 := 47) dX5_sittings_44 rfl rfl (by decide) (k_loc (L' := [some (.ref pl), some (.long (Int64.ofInt ((ksm (fun m => ksm (fun d => kI (onF f (m : Int) (d : Int)) (oF f (m : Int) 2 * kpo (ppF f (m : Int)) 6) 0) (oF f (m : Int) 3).toNat) i) + ((ksm (fun d => kI (onF f ((i : Nat) : Int) (d : Int)) (oF f ((i : Nat) : Int) 2) 0) (oF f ((i : Nat) : Int) 3).toNat) * (kpo (ppF f ((i : Nat) : Int)) 6))))), none, some (.int (iI (((i : Nat) : Int) + 1))), some (.ref (gMt γ (oF f ((i : Nat) : Int) 0)))]) rfl ?_)
      refine k_goto dX5_sittings_47 (tgt := 4) rfl ?_
      refine k_forget 4 (k_loc (L' := [some (.ref pl), some (.long (Int64.ofInt ((ksm (fun m => ksm (fun d => kI (onF f (m : Int) (d : Int)) (oF f (m : Int) 2 * kpo (ppF f (m : Int)) 6) 0) (oF f (m : Int) 3).toNat) i) + ((ksm (fun d => kI (onF f ((i : Nat) : Int) (d : Int)) (oF f ((i : Nat) : Int) 2) 0) (oF f ((i : Nat) : Int) 3).toNat) * (kpo (ppF f ((i : Nat) : Int)) 6))))), none, some (.int (iI (((i : Nat) : Int) + 1))), none]) rfl ?_)
      have e : (Int64.ofInt (ksm (fun m => ksm (fun d => kI (onF f (m : Int) (d : Int)) (oF f (m : Int) 2 * kpo (ppF f (m : Int)) 6) 0) (oF f (m : Int) 3).toNat) (i + 1))) = (Int64.ofInt ((ksm (fun m => ksm (fun d => kI (onF f (m : Int) (d : Int)) (oF f (m : Int) 2 * kpo (ppF f (m : Int)) 6) 0) (oF f (m : Int) 3).toNat) i) + ((ksm (fun d => kI (onF f ((i : Nat) : Int) (d : Int)) (oF f ((i : Nat) : Int) 2) 0) (oF f ((i : Nat) : Int) 3).toNat) * (kpo (ppF f ((i : Nat) : Int)) 6)))) := congrArg (fun z => Int64.ofInt ((ksm (fun m => ksm (fun d => kI (onF f (m : Int) (d : Int)) (oF f (m : Int) 2 * kpo (ppF f (m : Int)) 6) 0) (oF f (m : Int) 3).toNat) i) + z)) st_eq.symm
      refine k_loc (L' := [some (.ref pl), some (.long (Int64.ofInt (ksm (fun m => ksm (fun d => kI (onF f (m : Int) (d : Int)) (oF f (m : Int) 2 * kpo (ppF f (m : Int)) 6) 0) (oF f (m : Int) 3).toNat) (i + 1)))), none, some (.int (iI (((i : Nat) : Int) + 1))), none]) (by rw [e]) ?_
      exact ih4 _ (by omega) (i + 1) rfl (by omega)
  exact hloop4 _ 0 rfl (by omega)
