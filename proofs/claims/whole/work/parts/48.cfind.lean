/-! ===== the class: its queries ===== -/
theorem w_rkY {l : Launch} {G : kG} {h : kAH} (hl : l.stackTraces = false) {pl : Nat} {γ : kGh} {A : kAb} {f : Nat → Int} (hC : kRp G h pl γ A f) {n : Int} (rn : -2147483648 ≤ n ∧ n < 2147483648) (hn : ¬ atF f n < 0) : kC l G m_X5_rankOf 4 0 0 [.ref pl, .int (iI n)] h (kPq (.int (iI (atF f n))) h) kNo := by
  refine kC_of hl rfl rfl (Nat.le_of_ble_eq_true rfl) (L := [some (.ref pl), some (.int (iI n)), none]) rfl ?_
  obtain ⟨arM, cM, hMl⟩ := rp_Ml hC
  obtain ⟨mcM, hMa⟩ := hMl.1
  have h8 := kWf_cnt hC.2.2
  refine k_iconst (pc1 := 1) dX5_rankOf_0 rfl ?_
  refine k_istore_n (pc1 := 2) dX5_rankOf_1 rfl (by decide) (k_loc (L' := [some (.ref pl), some (.int (iI n)), some (.int (iI 0))]) rfl ?_)
  have hloop2 : ∀ (zz : Nat) (i : Nat), zz = (f 1 - ((i : Nat) : Int)).toNat → (((i : Nat) : Int) ≤ f 1) → (∀ j : Nat, j < i → ¬ (oF f (j : Int) 0 = n)) → kW l G m_X5_rankOf 4 (kPq (.int (iI (atF f n))) h) kNo 0 0 2 [some (.ref pl), some (.int (iI n)), some (.int (iI ((i : Nat) : Int)))] [] h := by
    intro zz
    induction zz using Nat.strongRecOn with
    | ind zz ih2 =>
    intro i hr2 hi9 hJ
    refine k_iload_n (pc1 := 3) dX5_rankOf_2 rfl rfl ?_
    refine k_aload_n (pc1 := 4) dX5_rankOf_3 rfl rfl ?_
    refine k_get (pc1 := 7) dX5_rankOf_4 rfl fd_RX5_28 (rp_P hC) (v := .ref (gMl γ)) rfl ?_
    refine k_callVP dX5_rankOf_7 rfl lk_RX5_65 o_Jx4a65c_size_8abf5 (w_lsz hl hMl) (as := []) hMa rfl rfl rfl rfl (by decide) (by decide) (k8 rfl) ?_
    refine k_val (v' := .int (iI (f 1))) (congrArg (fun z : Int => Value.int (iI z)) (by rw [List.length_map, List.length_range]; omega)) ?_
    refine k_icmp_ge (a := ((i : Nat) : Int)) (b := (f 1)) dX5_rankOf_10 rfl (tgt := 39) rfl (by omega) (by omega) (fun c10 : (f 1) ≤ ((i : Nat) : Int) => ?_) (fun c10 : ((i : Nat) : Int) < (f 1) => ?_)
    · skip
      exact absurd (show atF f n < 0 by rw [show atF f n = -1 from kls_none (fun j hj => hJ j (by omega))]; decide) hn
    · skip
      have hmm := kWf_m hC.2.2 (m := ((i : Nat) : Int)) (by omega) (by omega)
      have hnx := kWf_nxt hC.2.2
      refine k_aload_n (pc1 := 14) dX5_rankOf_13 rfl rfl ?_
      refine k_get (pc1 := 17) dX5_rankOf_14 rfl fd_RX5_28 (rp_P hC) (v := .ref (gMl γ)) rfl ?_
      refine k_iload_n (pc1 := 18) dX5_rankOf_17 rfl rfl ?_
      refine k_callVP dX5_rankOf_18 rfl lk_RX5_131 o_Jx4a65c_get_915e3 (w_lgt hl hMl ((i : Nat) : Int) ⟨by omega, by rw [List.length_map, List.length_range]; omega⟩ (by rw [List.getElem?_map, List.getElem?_range (by omega)]; show some (gMt γ (oF f ((Int.toNat ((i : Nat) : Int) : Nat) : Int) 0)) = _; rw [Int.toNat_of_nonneg (by omega)])) (as := [.int (iI ((i : Nat) : Int))]) hMa rfl rfl rfl rfl (by decide) (by decide) (k8 rfl) ?_
      refine k_cast (r := (RX2, TX2, 6)) (pc1 := 24) dX5_rankOf_21 rfl cl_RX5_76 (rp_M hC (m := ((i : Nat) : Int)) (by omega) (by omega)) rfl ?_
      refine k_get (pc1 := 27) dX5_rankOf_24 rfl fd_RX5_94 (rp_M hC (m := ((i : Nat) : Int)) (by omega) (by omega)) (v := .int (iI (oF f ((i : Nat) : Int) 0))) rfl ?_
      refine k_iload_n (pc1 := 28) dX5_rankOf_27 rfl rfl ?_
      refine k_icmp_ne (a := (oF f ((i : Nat) : Int) 0)) (b := n) dX5_rankOf_28 rfl (tgt := 33) rfl (by omega) (by omega) (fun c28 : (oF f ((i : Nat) : Int) 0) ≠ n => ?_) (fun c28 : (oF f ((i : Nat) : Int) 0) = n => ?_)
      · skip
        refine k_iinc (a := ((i : Nat) : Int)) (pc1 := 36) dX5_rankOf_33 rfl rfl (by decide) (k_loc (L' := [some (.ref pl), some (.int (iI n)), some (.int (iI (((i : Nat) : Int) + 1)))]) rfl ?_)
        refine k_goto dX5_rankOf_36 (tgt := 2) rfl ?_
        exact ih2 _ (by omega) (i + 1) rfl (by omega) (fun j hj => if e : j = i then e ▸ c28 else hJ j (by omega))
      · skip
        refine k_iload_n (pc1 := 32) dX5_rankOf_31 rfl rfl ?_
        exact k_iret dX5_rankOf_32 rfl rfl (kret (kls_at (n := (f 1).toNat) (i := i) (by omega) c28 hJ).symm _)
  exact hloop2 _ 0 rfl (by omega) (fun j hj => absurd hj (by omega))
theorem w_rkN {l : Launch} {G : kG} {h : kAH} (hl : l.stackTraces = false) {pl : Nat} {γ : kGh} {A : kAb} {f : Nat → Int} (hC : kRp G h pl γ A f) {n : Int} (rn : -2147483648 ≤ n ∧ n < 2147483648) (hn : atF f n < 0) : kC l G m_X5_rankOf 4 1 6 [.ref pl, .int (iI n)] h kNv (kTh "java/util/NoSuchElementException" h) := by
  refine kC_of hl rfl rfl (Nat.le_of_ble_eq_true rfl) (L := [some (.ref pl), some (.int (iI n)), none]) rfl ?_
  obtain ⟨arM, cM, hMl⟩ := rp_Ml hC
  obtain ⟨mcM, hMa⟩ := hMl.1
  have h8 := kWf_cnt hC.2.2
  refine k_iconst (pc1 := 1) dX5_rankOf_0 rfl ?_
  refine k_istore_n (pc1 := 2) dX5_rankOf_1 rfl (by decide) (k_loc (L' := [some (.ref pl), some (.int (iI n)), some (.int (iI 0))]) rfl ?_)
  have hloop2 : ∀ (zz : Nat) (i : Nat), zz = (f 1 - ((i : Nat) : Int)).toNat → (((i : Nat) : Int) ≤ f 1) → (∀ j : Nat, j < i → ¬ (oF f (j : Int) 0 = n)) → kW l G m_X5_rankOf 4 kNv (kTh "java/util/NoSuchElementException" h) 1 6 2 [some (.ref pl), some (.int (iI n)), some (.int (iI ((i : Nat) : Int)))] [] h := by
    intro zz
    induction zz using Nat.strongRecOn with
    | ind zz ih2 =>
    intro i hr2 hi9 hJ
    refine k_iload_n (pc1 := 3) dX5_rankOf_2 rfl rfl ?_
    refine k_aload_n (pc1 := 4) dX5_rankOf_3 rfl rfl ?_
    refine k_get (pc1 := 7) dX5_rankOf_4 rfl fd_RX5_28 (rp_P hC) (v := .ref (gMl γ)) rfl ?_
    refine k_callVP dX5_rankOf_7 rfl lk_RX5_65 o_Jx4a65c_size_8abf5 (w_lsz hl hMl) (as := []) hMa rfl rfl rfl rfl (by decide) (by decide) (k8 rfl) ?_
    refine k_val (v' := .int (iI (f 1))) (congrArg (fun z : Int => Value.int (iI z)) (by rw [List.length_map, List.length_range]; omega)) ?_
    refine k_icmp_ge (a := ((i : Nat) : Int)) (b := (f 1)) dX5_rankOf_10 rfl (tgt := 39) rfl (by omega) (by omega) (fun c10 : (f 1) ≤ ((i : Nat) : Int) => ?_) (fun c10 : ((i : Nat) : Int) < (f 1) => ?_)
    · skip
      exact k_throwXW 42 43 46 49 rfl nse_0 nse_1 nse_2 nse_5 rfl dX5_rankOf_39 dX5_rankOf_42 dX5_rankOf_43 dX5_rankOf_46 dX5_rankOf_49 rfl rfl rfl rfl rfl (by decide) (by decide) cl_RX5_198 ini_NoSuchElementException (text := "no such meeting") (by decide +kernel) ax_RX5_202 (k8 rfl) (by decide) (by decide) ⟨rfl, rfl⟩
    · skip
      have hmm := kWf_m hC.2.2 (m := ((i : Nat) : Int)) (by omega) (by omega)
      have hnx := kWf_nxt hC.2.2
      refine k_aload_n (pc1 := 14) dX5_rankOf_13 rfl rfl ?_
      refine k_get (pc1 := 17) dX5_rankOf_14 rfl fd_RX5_28 (rp_P hC) (v := .ref (gMl γ)) rfl ?_
      refine k_iload_n (pc1 := 18) dX5_rankOf_17 rfl rfl ?_
      refine k_callVP dX5_rankOf_18 rfl lk_RX5_131 o_Jx4a65c_get_915e3 (w_lgt hl hMl ((i : Nat) : Int) ⟨by omega, by rw [List.length_map, List.length_range]; omega⟩ (by rw [List.getElem?_map, List.getElem?_range (by omega)]; show some (gMt γ (oF f ((Int.toNat ((i : Nat) : Int) : Nat) : Int) 0)) = _; rw [Int.toNat_of_nonneg (by omega)])) (as := [.int (iI ((i : Nat) : Int))]) hMa rfl rfl rfl rfl (by decide) (by decide) (k8 rfl) ?_
      refine k_cast (r := (RX2, TX2, 6)) (pc1 := 24) dX5_rankOf_21 rfl cl_RX5_76 (rp_M hC (m := ((i : Nat) : Int)) (by omega) (by omega)) rfl ?_
      refine k_get (pc1 := 27) dX5_rankOf_24 rfl fd_RX5_94 (rp_M hC (m := ((i : Nat) : Int)) (by omega) (by omega)) (v := .int (iI (oF f ((i : Nat) : Int) 0))) rfl ?_
      refine k_iload_n (pc1 := 28) dX5_rankOf_27 rfl rfl ?_
      refine k_icmp_ne (a := (oF f ((i : Nat) : Int) 0)) (b := n) dX5_rankOf_28 rfl (tgt := 33) rfl (by omega) (by omega) (fun c28 : (oF f ((i : Nat) : Int) 0) ≠ n => ?_) (fun c28 : (oF f ((i : Nat) : Int) 0) = n => ?_)
      · skip
        refine k_iinc (a := ((i : Nat) : Int)) (pc1 := 36) dX5_rankOf_33 rfl rfl (by decide) (k_loc (L' := [some (.ref pl), some (.int (iI n)), some (.int (iI (((i : Nat) : Int) + 1)))]) rfl ?_)
        refine k_goto dX5_rankOf_36 (tgt := 2) rfl ?_
        exact ih2 _ (by omega) (i + 1) rfl (by omega) (fun j hj => if e : j = i then e ▸ c28 else hJ j (by omega))
      · skip
        have e : atF f n = ((i : Nat) : Int) := kls_at (n := (f 1).toNat) (i := i) (by omega) c28 hJ
        exfalso; omega
  exact hloop2 _ 0 rfl (by omega) (fun j hj => absurd hj (by omega))
theorem w_mwY {l : Launch} {G : kG} {h : kAH} (hl : l.stackTraces = false) {pl : Nat} {γ : kGh} {A : kAb} {f : Nat → Int} (hC : kRp G h pl γ A f) {n : Int} (rn : -2147483648 ≤ n ∧ n < 2147483648) (hn : ¬ atF f n < 0) : kC l G m_X5_meetingWith 5 0 0 [.ref pl, .int (iI n)] h (kPq (.ref (gMt γ (oF f (atF f n) 0))) h) kNo := by
  refine kC_of hl rfl rfl (Nat.le_of_ble_eq_true rfl) (L := [some (.ref pl), some (.int (iI n))]) rfl ?_
  obtain ⟨arM, cM, hMl⟩ := rp_Ml hC
  obtain ⟨mcM, hMa⟩ := hMl.1
  have h8 := kWf_cnt hC.2.2
  refine k_aload_n (pc1 := 1) dX5_meetingWith_0 rfl rfl ?_
  refine k_get (pc1 := 4) dX5_meetingWith_1 rfl fd_RX5_28 (rp_P hC) (v := .ref (gMl γ)) rfl ?_
  refine k_aload_n (pc1 := 5) dX5_meetingWith_4 rfl rfl ?_
  refine k_iload_n (pc1 := 6) dX5_meetingWith_5 rfl rfl ?_
  refine k_callVP dX5_meetingWith_6 rfl lk_RX5_128 o_X5_rankOf (w_rkY hl hC (by omega) hn) (as := [.int (iI n)]) (rp_P hC) rfl rfl rfl rfl (by decide) (by decide) (k8 rfl) ?_
  have hat := atF_r (f := f) (n := n) h8.1
  have hmm := kWf_m hC.2.2 (m := (atF f n)) (by omega) (by omega)
  have hmx := rp_Mx hC (m := (atF f n)) (by omega) (by omega)
  obtain ⟨arE, cE, hMd⟩ := rp_Md hC (m := (atF f n)) (by omega) (by omega)
  obtain ⟨mcE, hMe⟩ := hMd.1
  refine k_callVP dX5_meetingWith_9 rfl lk_RX5_131 o_Jx4a65c_get_915e3 (w_lgt hl hMl (atF f n) ⟨by omega, by rw [List.length_map, List.length_range]; omega⟩ (by rw [List.getElem?_map, List.getElem?_range (by omega)]; show some (gMt γ (oF f ((Int.toNat (atF f n) : Nat) : Int) 0)) = _; rw [Int.toNat_of_nonneg (by omega)])) (as := [.int (iI (atF f n))]) hMa rfl rfl rfl rfl (by decide) (by decide) (k8 rfl) ?_
  refine k_cast (r := (RX2, TX2, 6)) (pc1 := 15) dX5_meetingWith_12 rfl cl_RX5_76 (rp_M hC (m := (atF f n)) (by omega) (by omega)) rfl ?_
  exact k_aret dX5_meetingWith_15 rfl (Or.inl ⟨_, rfl⟩) (Or.inr ⟨_, rfl⟩) ⟨rfl, rfl⟩
theorem w_mwN {l : Launch} {G : kG} {h : kAH} (hl : l.stackTraces = false) {pl : Nat} {γ : kGh} {A : kAb} {f : Nat → Int} (hC : kRp G h pl γ A f) {n : Int} (rn : -2147483648 ≤ n ∧ n < 2147483648) (hn : atF f n < 0) : kC l G m_X5_meetingWith 5 1 6 [.ref pl, .int (iI n)] h kNv (kTh "java/util/NoSuchElementException" h) := by
  refine kC_of hl rfl rfl (Nat.le_of_ble_eq_true rfl) (L := [some (.ref pl), some (.int (iI n))]) rfl ?_
  obtain ⟨arM, cM, hMl⟩ := rp_Ml hC
  obtain ⟨mcM, hMa⟩ := hMl.1
  have h8 := kWf_cnt hC.2.2
  refine k_aload_n (pc1 := 1) dX5_meetingWith_0 rfl rfl ?_
  refine k_get (pc1 := 4) dX5_meetingWith_1 rfl fd_RX5_28 (rp_P hC) (v := .ref (gMl γ)) rfl ?_
  refine k_aload_n (pc1 := 5) dX5_meetingWith_4 rfl rfl ?_
  refine k_iload_n (pc1 := 6) dX5_meetingWith_5 rfl rfl ?_
  refine k_callV dX5_meetingWith_6 rfl lk_RX5_128 o_X5_rankOf (as := [.int (iI n)]) rfl rfl (rp_P hC) rfl rfl (w_rkN hl hC (by omega) hn) (by decide) (by decide) (by decide) (by decide) (k8 rfl) (fun v h9 z => z.elim) (fun E h9 z => kx_out rfl ?_)
  obtain ⟨hv1, hv2⟩ := z
  subst hv1
  rw [hv2]
  exact ⟨rfl, rfl⟩
theorem w_dwY {l : Launch} {G : kG} {h : kAH} (hl : l.stackTraces = false) {pl : Nat} {γ : kGh} {A : kAb} {f : Nat → Int} (hC : kRp G h pl γ A f) {m : Int} (hm0 : 0 ≤ m) (hm1 : m < f 1) {x : Int} (hx : 0 ≤ x ∧ x < oF f m 3) : kC l G m_X5_dateWith 4 0 0 [.ref (gMt γ (oF f m 0)), .int (iI x)] h (kPq (.ref (gDt γ (oF f m 0) x)) h) kNo := by
  refine kC_of hl rfl rfl (Nat.le_of_ble_eq_true rfl) (L := [some (.ref (gMt γ (oF f m 0))), some (.int (iI x))]) rfl ?_
  have hmm := kWf_m hC.2.2 (m := m) hm0 hm1
  have hmx := rp_Mx hC (m := m) hm0 hm1
  obtain ⟨arE, cE, hMd⟩ := rp_Md hC (m := m) hm0 hm1
  obtain ⟨mcE, hMe⟩ := hMd.1
  refine k_iload_n (pc1 := 1) dX5_dateWith_0 rfl rfl ?_
  refine k_if_lt (a := x) dX5_dateWith_1 rfl (tgt := 15) rfl (by omega) (fun c1 : x < 0 => ?_) (fun c1 : ¬ x < 0 => ?_)
  · skip
    exfalso; omega
  · skip
    refine k_iload_n (pc1 := 5) dX5_dateWith_4 rfl rfl ?_
    refine k_aload_n (pc1 := 6) dX5_dateWith_5 rfl rfl ?_
    refine k_get (pc1 := 9) dX5_dateWith_6 rfl fd_RX5_101 (rp_M hC (m := m) hm0 hm1) (v := .ref (gMd γ (oF f m 0))) rfl ?_
    refine k_callVP dX5_dateWith_9 rfl lk_RX5_65 o_Jx4a65c_size_8abf5 (w_lsz hl hMd) (as := []) hMe rfl rfl rfl rfl (by decide) (by decide) (k8 rfl) ?_
    refine k_val (v' := .int (iI (oF f m 3))) (congrArg (fun z : Int => Value.int (iI z)) (by rw [List.length_map, List.length_range]; omega)) ?_
    refine k_icmp_lt (a := x) (b := (oF f m 3)) dX5_dateWith_12 rfl (tgt := 26) rfl (by omega) (by omega) (fun c12 : x < (oF f m 3) => ?_) (fun c12 : (oF f m 3) ≤ x => ?_)
    · skip
      refine k_aload_n (pc1 := 27) dX5_dateWith_26 rfl rfl ?_
      refine k_get (pc1 := 30) dX5_dateWith_27 rfl fd_RX5_101 (rp_M hC (m := m) hm0 hm1) (v := .ref (gMd γ (oF f m 0))) rfl ?_
      refine k_iload_n (pc1 := 31) dX5_dateWith_30 rfl rfl ?_
      refine k_callVP dX5_dateWith_31 rfl lk_RX5_131 o_Jx4a65c_get_915e3 (w_lgt hl hMd x ⟨by omega, by rw [List.length_map, List.length_range]; omega⟩ (by rw [List.getElem?_map, List.getElem?_range (by omega)]; show some (gDt γ (oF f m 0) ((Int.toNat x : Nat) : Int)) = _; rw [Int.toNat_of_nonneg (by omega)])) (as := [.int (iI x)]) hMe rfl rfl rfl rfl (by decide) (by decide) (k8 rfl) ?_
      have hi : inP f m x := ⟨hm0, hm1, by omega, by omega⟩
      have hmd := kWf_d hC.2.2 hi.1 hi.2.1 hi.2.2.1 hi.2.2.2
      refine k_cast (r := (RX0, TX0, 4)) (pc1 := 37) dX5_dateWith_34 rfl cl_RX5_109 (rp_D hC hi) rfl ?_
      exact k_aret dX5_dateWith_37 rfl (Or.inl ⟨_, rfl⟩) (Or.inr ⟨_, rfl⟩) ⟨rfl, rfl⟩
    · skip
      exfalso; omega
theorem w_dwN {l : Launch} {G : kG} {h : kAH} (hl : l.stackTraces = false) {pl : Nat} {γ : kGh} {A : kAb} {f : Nat → Int} (hC : kRp G h pl γ A f) {m : Int} (hm0 : 0 ≤ m) (hm1 : m < f 1) {x : Int} (rx : -2147483648 ≤ x ∧ x < 2147483648) (hx : ¬ (0 ≤ x ∧ x < oF f m 3)) : kC l G m_X5_dateWith 4 1 6 [.ref (gMt γ (oF f m 0)), .int (iI x)] h kNv (kTh "java/lang/IndexOutOfBoundsException" h) := by
  refine kC_of hl rfl rfl (Nat.le_of_ble_eq_true rfl) (L := [some (.ref (gMt γ (oF f m 0))), some (.int (iI x))]) rfl ?_
  have hmm := kWf_m hC.2.2 (m := m) hm0 hm1
  have hmx := rp_Mx hC (m := m) hm0 hm1
  obtain ⟨arE, cE, hMd⟩ := rp_Md hC (m := m) hm0 hm1
  obtain ⟨mcE, hMe⟩ := hMd.1
  refine k_iload_n (pc1 := 1) dX5_dateWith_0 rfl rfl ?_
  refine k_if_lt (a := x) dX5_dateWith_1 rfl (tgt := 15) rfl (by omega) (fun c1 : x < 0 => ?_) (fun c1 : ¬ x < 0 => ?_)
  · skip
    exact k_throwW 18 19 22 25 rfl dX5_dateWith_15 dX5_dateWith_18 dX5_dateWith_19 dX5_dateWith_22 dX5_dateWith_25 rfl rfl rfl rfl rfl (by decide) (by decide) cl_RX5_288 ini_IndexOutOfBoundsException (text := "no such date") (by decide +kernel) at_RX5_292 (k8 rfl) (by decide) (by decide) ⟨rfl, rfl⟩
  · skip
    refine k_iload_n (pc1 := 5) dX5_dateWith_4 rfl rfl ?_
    refine k_aload_n (pc1 := 6) dX5_dateWith_5 rfl rfl ?_
    refine k_get (pc1 := 9) dX5_dateWith_6 rfl fd_RX5_101 (rp_M hC (m := m) hm0 hm1) (v := .ref (gMd γ (oF f m 0))) rfl ?_
    refine k_callVP dX5_dateWith_9 rfl lk_RX5_65 o_Jx4a65c_size_8abf5 (w_lsz hl hMd) (as := []) hMe rfl rfl rfl rfl (by decide) (by decide) (k8 rfl) ?_
    refine k_val (v' := .int (iI (oF f m 3))) (congrArg (fun z : Int => Value.int (iI z)) (by rw [List.length_map, List.length_range]; omega)) ?_
    refine k_icmp_lt (a := x) (b := (oF f m 3)) dX5_dateWith_12 rfl (tgt := 26) rfl (by omega) (by omega) (fun c12 : x < (oF f m 3) => ?_) (fun c12 : (oF f m 3) ≤ x => ?_)
    · skip
      exfalso; omega
    · skip
      exact k_throwW 18 19 22 25 rfl dX5_dateWith_15 dX5_dateWith_18 dX5_dateWith_19 dX5_dateWith_22 dX5_dateWith_25 rfl rfl rfl rfl rfl (by decide) (by decide) cl_RX5_288 ini_IndexOutOfBoundsException (text := "no such date") (by decide +kernel) at_RX5_292 (k8 rfl) (by decide) (by decide) ⟨rfl, rfl⟩
theorem w_swY {l : Launch} {G : kG} {h : kAH} (hl : l.stackTraces = false) {pl : Nat} {γ : kGh} {A : kAb} {f : Nat → Int} (hC : kRp G h pl γ A f) {m : Int} (hm0 : 0 ≤ m) (hm1 : m < f 1) {x : Int} (hx : 0 ≤ x ∧ x < oF f m 3) (ho : onF f m x) : kC l G m_X5_standingDateWith 5 0 0 [.ref (gMt γ (oF f m 0)), .int (iI x)] h (kPq (.ref (gDt γ (oF f m 0) x)) h) kNo := by
  refine kC_of hl rfl rfl (Nat.le_of_ble_eq_true rfl) (L := [some (.ref (gMt γ (oF f m 0))), some (.int (iI x)), none]) rfl ?_
  refine k_aload_n (pc1 := 1) dX5_standingDateWith_0 rfl rfl ?_
  refine k_iload_n (pc1 := 2) dX5_standingDateWith_1 rfl rfl ?_
  refine k_callSP dX5_standingDateWith_2 rfl lk_RX5_104 o_X5_dateWith (w_dwY hl hC (m := m) (by omega) (by omega) (x := x) ⟨by omega, by omega⟩) (as := [.ref (gMt γ (oF f m 0)), .int (iI x)]) rfl rfl rfl (by decide) (by decide) (k8 rfl) ?_
  have hi : inP f m x := ⟨by omega, by omega, by omega, by omega⟩
  have hmd := kWf_d hC.2.2 hi.1 hi.2.1 hi.2.2.1 hi.2.2.2
  refine k_astore_n (pc1 := 6) dX5_standingDateWith_5 rfl (by decide) (k_loc (L' := [some (.ref (gMt γ (oF f m 0))), some (.int (iI x)), some (.ref (gDt γ (oF f m 0) x))]) rfl ?_)
  refine k_aload_n (pc1 := 7) dX5_standingDateWith_6 rfl rfl ?_
  have ho2 : dF f m x 2 = 0 := ho
  refine k_get (pc1 := 10) dX5_standingDateWith_7 rfl fd_RX5_175 (rp_D hC hi) (v := .int (iI (dF f m x 2))) rfl ?_
  refine k_if_eq (a := (dF f m x 2)) dX5_standingDateWith_10 rfl (tgt := 24) rfl (by omega) (fun c10 : (dF f m x 2) = 0 => ?_) (fun c10 : (dF f m x 2) ≠ 0 => ?_)
  · skip
    refine k_aload_n (pc1 := 25) dX5_standingDateWith_24 rfl rfl ?_
    exact k_aret dX5_standingDateWith_25 rfl (Or.inl ⟨_, rfl⟩) (Or.inr ⟨_, rfl⟩) ⟨rfl, rfl⟩
  · skip
    exact absurd ho2 (by omega)
theorem w_swC {l : Launch} {G : kG} {h : kAH} (hl : l.stackTraces = false) {pl : Nat} {γ : kGh} {A : kAb} {f : Nat → Int} (hC : kRp G h pl γ A f) {m : Int} (hm0 : 0 ≤ m) (hm1 : m < f 1) {x : Int} (hx : 0 ≤ x ∧ x < oF f m 3) (ho : ¬ onF f m x) : kC l G m_X5_standingDateWith 5 1 6 [.ref (gMt γ (oF f m 0)), .int (iI x)] h kNv (kTh "java/lang/IllegalStateException" h) := by
  refine kC_of hl rfl rfl (Nat.le_of_ble_eq_true rfl) (L := [some (.ref (gMt γ (oF f m 0))), some (.int (iI x)), none]) rfl ?_
  refine k_aload_n (pc1 := 1) dX5_standingDateWith_0 rfl rfl ?_
  refine k_iload_n (pc1 := 2) dX5_standingDateWith_1 rfl rfl ?_
  refine k_callSP dX5_standingDateWith_2 rfl lk_RX5_104 o_X5_dateWith (w_dwY hl hC (m := m) (by omega) (by omega) (x := x) ⟨by omega, by omega⟩) (as := [.ref (gMt γ (oF f m 0)), .int (iI x)]) rfl rfl rfl (by decide) (by decide) (k8 rfl) ?_
  have hi : inP f m x := ⟨by omega, by omega, by omega, by omega⟩
  have hmd := kWf_d hC.2.2 hi.1 hi.2.1 hi.2.2.1 hi.2.2.2
  refine k_astore_n (pc1 := 6) dX5_standingDateWith_5 rfl (by decide) (k_loc (L' := [some (.ref (gMt γ (oF f m 0))), some (.int (iI x)), some (.ref (gDt γ (oF f m 0) x))]) rfl ?_)
  refine k_aload_n (pc1 := 7) dX5_standingDateWith_6 rfl rfl ?_
  refine k_get (pc1 := 10) dX5_standingDateWith_7 rfl fd_RX5_175 (rp_D hC hi) (v := .int (iI (dF f m x 2))) rfl ?_
  refine k_if_eq (a := (dF f m x 2)) dX5_standingDateWith_10 rfl (tgt := 24) rfl (by omega) (fun c10 : (dF f m x 2) = 0 => ?_) (fun c10 : (dF f m x 2) ≠ 0 => ?_)
  · skip
    exact absurd c10 ho
  · skip
    exact k_throwW 16 17 20 23 rfl dX5_standingDateWith_13 dX5_standingDateWith_16 dX5_standingDateWith_17 dX5_standingDateWith_20 dX5_standingDateWith_23 rfl rfl rfl rfl rfl (by decide) (by decide) cl_RX5_69 ini_IllegalStateException (text := "the date is cancelled") (by decide +kernel) at_RX5_73 (k8 rfl) (by decide) (by decide) ⟨rfl, rfl⟩
theorem w_swN {l : Launch} {G : kG} {h : kAH} (hl : l.stackTraces = false) {pl : Nat} {γ : kGh} {A : kAb} {f : Nat → Int} (hC : kRp G h pl γ A f) {m : Int} (hm0 : 0 ≤ m) (hm1 : m < f 1) {x : Int} (rx : -2147483648 ≤ x ∧ x < 2147483648) (hx : ¬ (0 ≤ x ∧ x < oF f m 3)) : kC l G m_X5_standingDateWith 5 1 6 [.ref (gMt γ (oF f m 0)), .int (iI x)] h kNv (kTh "java/lang/IndexOutOfBoundsException" h) := by
  refine kC_of hl rfl rfl (Nat.le_of_ble_eq_true rfl) (L := [some (.ref (gMt γ (oF f m 0))), some (.int (iI x)), none]) rfl ?_
  refine k_aload_n (pc1 := 1) dX5_standingDateWith_0 rfl rfl ?_
  refine k_iload_n (pc1 := 2) dX5_standingDateWith_1 rfl rfl ?_
  refine k_callS dX5_standingDateWith_2 rfl rfl lk_RX5_104 o_X5_dateWith (as := [.ref (gMt γ (oF f m 0)), .int (iI x)]) rfl rfl (w_dwN hl hC (m := m) (by omega) (by omega) (x := x) (by omega) (by omega)) (by decide) (by decide) (by decide) (by decide) (k8 rfl) (fun v h9 z => z.elim) (fun E h9 z => kx_out rfl ?_)
  obtain ⟨hv1, hv2⟩ := z
  subst hv1
  rw [hv2]
  exact ⟨rfl, rfl⟩
