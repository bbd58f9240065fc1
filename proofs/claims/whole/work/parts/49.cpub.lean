/-! ===== the class: its public queries, walked ===== -/
theorem w_X5_seatsOf {l : Launch} {G : kG} {h : kAH} (hl : l.stackTraces = false) {pl : Nat} {γ : kGh} {A : kAb} {f : Nat → Int} (hC : kRp G h pl γ A f) {a : Int} (ra : -2147483648 ≤ a ∧ a < 2147483648) : kC l G m_X5_seatsOf 2 1 6 [.ref pl, .int (iI a)] h (kOy G pl γ h (TseatsOf f a)) (kOn G pl γ h (TseatsOf f a) ["", "java/lang/IllegalArgumentException"]) := by
  have h8 := kWf_cnt hC.2.2
  refine kC_of hl rfl rfl (Nat.le_of_ble_eq_true rfl) (L := [some (.ref pl), some (.int (iI a))]) rfl ?_
  refine k_aload_n (pc1 := 1) dX5_seatsOf_0 rfl rfl ?_
  refine k_iload_n (pc1 := 2) dX5_seatsOf_1 rfl rfl ?_
  by_cases hr2 : 0 ≤ a ∧ a < 4
  · skip
    refine k_callVP dX5_seatsOf_2 rfl lk_RX5_45 o_X5_roomWith (w_rmY hl hC ⟨by omega, by omega⟩) (as := [.int (iI a)]) (rp_P hC) rfl rfl rfl rfl (by decide) (by decide) (k8 rfl) ?_
    refine k_get (pc1 := 8) dX5_seatsOf_5 rfl fd_RX5_52 (rp_R hC (r := a) (by omega) (by omega)) (v := .int (iI (f (5 + a).toNat))) rfl ?_
    exact k_iret dX5_seatsOf_8 rfl rfl (kOy_mk (v := (f (5 + a).toNat)) (f' := f) (by first | exact kI_t (by first | omega | assumption) | exact kI_f (by first | omega | assumption)) (kSt_rf hC))
  · skip
    refine k_callV dX5_seatsOf_2 rfl lk_RX5_45 o_X5_roomWith (as := [.int (iI a)]) rfl rfl (rp_P hC) rfl rfl (w_rmN hl hC (by omega) (by omega)) (by decide) (by decide) (by decide) (by decide) (k8 rfl) (fun v h9 z => z.elim) (fun E h9 z => kx_out rfl ?_)
    obtain ⟨hv1, hv2⟩ := z
    subst hv1
    rw [hv2]
    exact (kOn_mk (c := 1) (v := 0) (f' := f) (by first | exact kI_t (by first | omega | assumption) | exact kI_f (by first | omega | assumption)) (by decide) rfl (kSt_rf hC))
theorem w_X5_houseOf {l : Launch} {G : kG} {h : kAH} (hl : l.stackTraces = false) {pl : Nat} {γ : kGh} {A : kAb} {f : Nat → Int} (hC : kRp G h pl γ A f) {a : Int} (ra : -2147483648 ≤ a ∧ a < 2147483648) : kC l G m_X5_houseOf 2 1 6 [.ref pl, .int (iI a)] h (kOy G pl γ h (ThouseOf f a)) (kOn G pl γ h (ThouseOf f a) ["", "java/lang/IllegalArgumentException"]) := by
  have h8 := kWf_cnt hC.2.2
  refine kC_of hl rfl rfl (Nat.le_of_ble_eq_true rfl) (L := [some (.ref pl), some (.int (iI a))]) rfl ?_
  refine k_aload_n (pc1 := 1) dX5_houseOf_0 rfl rfl ?_
  refine k_iload_n (pc1 := 2) dX5_houseOf_1 rfl rfl ?_
  by_cases hr2 : 0 ≤ a ∧ a < 4
  · skip
    refine k_callVP dX5_houseOf_2 rfl lk_RX5_45 o_X5_roomWith (w_rmY hl hC ⟨by omega, by omega⟩) (as := [.int (iI a)]) (rp_P hC) rfl rfl rfl rfl (by decide) (by decide) (k8 rfl) ?_
    refine k_get (pc1 := 8) dX5_houseOf_5 rfl fd_RX5_55 (rp_R hC (r := a) (by omega) (by omega)) (v := .int (iI (f (9 + a).toNat))) rfl ?_
    exact k_iret dX5_houseOf_8 rfl rfl (kOy_mk (v := (f (9 + a).toNat)) (f' := f) (by first | exact kI_t (by first | omega | assumption) | exact kI_f (by first | omega | assumption)) (kSt_rf hC))
  · skip
    refine k_callV dX5_houseOf_2 rfl lk_RX5_45 o_X5_roomWith (as := [.int (iI a)]) rfl rfl (rp_P hC) rfl rfl (w_rmN hl hC (by omega) (by omega)) (by decide) (by decide) (by decide) (by decide) (k8 rfl) (fun v h9 z => z.elim) (fun E h9 z => kx_out rfl ?_)
    obtain ⟨hv1, hv2⟩ := z
    subst hv1
    rw [hv2]
    exact (kOn_mk (c := 1) (v := 0) (f' := f) (by first | exact kI_t (by first | omega | assumption) | exact kI_f (by first | omega | assumption)) (by decide) rfl (kSt_rf hC))
theorem w_X5_meetingCount {l : Launch} {G : kG} {h : kAH} (hl : l.stackTraces = false) {pl : Nat} {γ : kGh} {A : kAb} {f : Nat → Int} (hC : kRp G h pl γ A f)  : kC l G m_X5_meetingCount 2 1 6 [.ref pl] h (kOy G pl γ h (((0, f 1, f) : kT))) (kOn G pl γ h (((0, f 1, f) : kT)) [""]) := by
  have h8 := kWf_cnt hC.2.2
  refine kC_of hl rfl rfl (Nat.le_of_ble_eq_true rfl) (L := [some (.ref pl)]) rfl ?_
  obtain ⟨arM, cM, hMl⟩ := rp_Ml hC
  obtain ⟨mcM, hMa⟩ := hMl.1
  have h8 := kWf_cnt hC.2.2
  refine k_aload_n (pc1 := 1) dX5_meetingCount_0 rfl rfl ?_
  refine k_get (pc1 := 4) dX5_meetingCount_1 rfl fd_RX5_28 (rp_P hC) (v := .ref (gMl γ)) rfl ?_
  refine k_callVP dX5_meetingCount_4 rfl lk_RX5_65 o_Jx4a65c_size_8abf5 (w_lsz hl hMl) (as := []) hMa rfl rfl rfl rfl (by decide) (by decide) (k8 rfl) ?_
  refine k_val (v' := .int (iI (f 1))) (congrArg (fun z : Int => Value.int (iI z)) (by rw [List.length_map, List.length_range]; omega)) ?_
  exact k_iret dX5_meetingCount_7 rfl rfl (kOy_mk (v := (f 1)) (f' := f) (by rfl) (kSt_rf hC))
theorem w_X5_hostOf {l : Launch} {G : kG} {h : kAH} (hl : l.stackTraces = false) {pl : Nat} {γ : kGh} {A : kAb} {f : Nat → Int} (hC : kRp G h pl γ A f) {n : Int} (rn : -2147483648 ≤ n ∧ n < 2147483648) : kC l G m_X5_hostOf 6 1 6 [.ref pl, .int (iI n)] h (kOy G pl γ h (ThostOf f n)) (kOn G pl γ h (ThostOf f n) ["", "java/util/NoSuchElementException"]) := by
  have h8 := kWf_cnt hC.2.2
  refine kC_of hl rfl rfl (Nat.le_of_ble_eq_true rfl) (L := [some (.ref pl), some (.int (iI n))]) rfl ?_
  refine k_aload_n (pc1 := 1) dX5_hostOf_0 rfl rfl ?_
  refine k_iload_n (pc1 := 2) dX5_hostOf_1 rfl rfl ?_
  by_cases hn2 : atF f n < 0
  · skip
    refine k_callV dX5_hostOf_2 rfl lk_RX5_97 o_X5_meetingWith (as := [.int (iI n)]) rfl rfl (rp_P hC) rfl rfl (w_mwN hl hC (by omega) hn2) (by decide) (by decide) (by decide) (by decide) (k8 rfl) (fun v h9 z => z.elim) (fun E h9 z => kx_out rfl ?_)
    obtain ⟨hv1, hv2⟩ := z
    subst hv1
    rw [hv2]
    exact (kOn_mk (c := 1) (v := 0) (f' := f) (by first | exact kI_t (by first | omega | assumption) | exact kI_f (by first | omega | assumption)) (by decide) rfl (kSt_rf hC))
  · skip
    refine k_callVP dX5_hostOf_2 rfl lk_RX5_97 o_X5_meetingWith (w_mwY hl hC (by omega) hn2) (as := [.int (iI n)]) (rp_P hC) rfl rfl rfl rfl (by decide) (by decide) (k8 rfl) ?_
    have h8 := kWf_cnt hC.2.2
    have hat := atF_r (f := f) (n := n) h8.1
    have hmm := kWf_m hC.2.2 (m := (atF f n)) (by omega) (by omega)
    have hmx := rp_Mx hC (m := (atF f n)) (by omega) (by omega)
    obtain ⟨arE, cE, hMd⟩ := rp_Md hC (m := (atF f n)) (by omega) (by omega)
    obtain ⟨mcE, hMe⟩ := hMd.1
    refine k_get (pc1 := 8) dX5_hostOf_5 rfl fd_RX5_203 (rp_M hC (m := (atF f n)) (by omega) (by omega)) (v := .int (iI (oF f (atF f n) 1))) rfl ?_
    exact k_iret dX5_hostOf_8 rfl rfl (kOy_mk (v := (oF f (atF f n) 1)) (f' := f) (by first | exact kI_t (by first | omega | assumption) | exact kI_f (by first | omega | assumption)) (kSt_rf hC))
theorem w_X5_expected {l : Launch} {G : kG} {h : kAH} (hl : l.stackTraces = false) {pl : Nat} {γ : kGh} {A : kAb} {f : Nat → Int} (hC : kRp G h pl γ A f) {n : Int} (rn : -2147483648 ≤ n ∧ n < 2147483648) : kC l G m_X5_expected 6 1 6 [.ref pl, .int (iI n)] h (kOy G pl γ h (Texpected f n)) (kOn G pl γ h (Texpected f n) ["", "java/util/NoSuchElementException"]) := by
  have h8 := kWf_cnt hC.2.2
  refine kC_of hl rfl rfl (Nat.le_of_ble_eq_true rfl) (L := [some (.ref pl), some (.int (iI n))]) rfl ?_
  refine k_aload_n (pc1 := 1) dX5_expected_0 rfl rfl ?_
  refine k_iload_n (pc1 := 2) dX5_expected_1 rfl rfl ?_
  by_cases hn2 : atF f n < 0
  · skip
    refine k_callV dX5_expected_2 rfl lk_RX5_97 o_X5_meetingWith (as := [.int (iI n)]) rfl rfl (rp_P hC) rfl rfl (w_mwN hl hC (by omega) hn2) (by decide) (by decide) (by decide) (by decide) (k8 rfl) (fun v h9 z => z.elim) (fun E h9 z => kx_out rfl ?_)
    obtain ⟨hv1, hv2⟩ := z
    subst hv1
    rw [hv2]
    exact (kOn_mk (c := 1) (v := 0) (f' := f) (by first | exact kI_t (by omega) | (rw [Texpected, kI_f (by omega), rp_ex hC (by omega) (by omega)])) (by decide) rfl (kSt_rf hC))
  · skip
    refine k_callVP dX5_expected_2 rfl lk_RX5_97 o_X5_meetingWith (w_mwY hl hC (by omega) hn2) (as := [.int (iI n)]) (rp_P hC) rfl rfl rfl rfl (by decide) (by decide) (k8 rfl) ?_
    have h8 := kWf_cnt hC.2.2
    have hat := atF_r (f := f) (n := n) h8.1
    have hmm := kWf_m hC.2.2 (m := (atF f n)) (by omega) (by omega)
    have hmx := rp_Mx hC (m := (atF f n)) (by omega) (by omega)
    obtain ⟨arE, cE, hMd⟩ := rp_Md hC (m := (atF f n)) (by omega) (by omega)
    obtain ⟨mcE, hMe⟩ := hMd.1
    refine k_callVP dX5_expected_5 rfl lk_RX5_206 o_X2_expectedCount (w_X2_expectedCount hl (rp_M hC (m := (atF f n)) (by omega) (by omega)) ⟨by omega, by omega⟩ hmx.1 hmx.2.1 hmx.2.2.1) (as := []) (rp_M hC (m := (atF f n)) (by omega) (by omega)) rfl rfl rfl rfl (by decide) (by decide) (k8 rfl) ?_
    exact k_iret dX5_expected_8 rfl rfl (kOy_mk (v := (kpo (exM (oF f (atF f n) 1) (aAk A (oF f (atF f n) 0)) (aNo A (oF f (atF f n) 0))) 6)) (f' := f) (by first | exact kI_t (by omega) | (rw [Texpected, kI_f (by omega), rp_ex hC (by omega) (by omega)])) (kSt_rf hC))
theorem w_X5_dateCount {l : Launch} {G : kG} {h : kAH} (hl : l.stackTraces = false) {pl : Nat} {γ : kGh} {A : kAb} {f : Nat → Int} (hC : kRp G h pl γ A f) {n : Int} (rn : -2147483648 ≤ n ∧ n < 2147483648) : kC l G m_X5_dateCount 6 1 6 [.ref pl, .int (iI n)] h (kOy G pl γ h (TdateCount f n)) (kOn G pl γ h (TdateCount f n) ["", "java/util/NoSuchElementException"]) := by
  have h8 := kWf_cnt hC.2.2
  refine kC_of hl rfl rfl (Nat.le_of_ble_eq_true rfl) (L := [some (.ref pl), some (.int (iI n))]) rfl ?_
  refine k_aload_n (pc1 := 1) dX5_dateCount_0 rfl rfl ?_
  refine k_iload_n (pc1 := 2) dX5_dateCount_1 rfl rfl ?_
  by_cases hn2 : atF f n < 0
  · skip
    refine k_callV dX5_dateCount_2 rfl lk_RX5_97 o_X5_meetingWith (as := [.int (iI n)]) rfl rfl (rp_P hC) rfl rfl (w_mwN hl hC (by omega) hn2) (by decide) (by decide) (by decide) (by decide) (k8 rfl) (fun v h9 z => z.elim) (fun E h9 z => kx_out rfl ?_)
    obtain ⟨hv1, hv2⟩ := z
    subst hv1
    rw [hv2]
    exact (kOn_mk (c := 1) (v := 0) (f' := f) (by first | exact kI_t (by first | omega | assumption) | exact kI_f (by first | omega | assumption)) (by decide) rfl (kSt_rf hC))
  · skip
    refine k_callVP dX5_dateCount_2 rfl lk_RX5_97 o_X5_meetingWith (w_mwY hl hC (by omega) hn2) (as := [.int (iI n)]) (rp_P hC) rfl rfl rfl rfl (by decide) (by decide) (k8 rfl) ?_
    have h8 := kWf_cnt hC.2.2
    have hat := atF_r (f := f) (n := n) h8.1
    have hmm := kWf_m hC.2.2 (m := (atF f n)) (by omega) (by omega)
    have hmx := rp_Mx hC (m := (atF f n)) (by omega) (by omega)
    obtain ⟨arE, cE, hMd⟩ := rp_Md hC (m := (atF f n)) (by omega) (by omega)
    obtain ⟨mcE, hMe⟩ := hMd.1
    refine k_get (pc1 := 8) dX5_dateCount_5 rfl fd_RX5_101 (rp_M hC (m := (atF f n)) (by omega) (by omega)) (v := .ref (gMd γ (oF f (atF f n) 0))) rfl ?_
    refine k_callVP dX5_dateCount_8 rfl lk_RX5_65 o_Jx4a65c_size_8abf5 (w_lsz hl hMd) (as := []) hMe rfl rfl rfl rfl (by decide) (by decide) (k8 rfl) ?_
    refine k_val (v' := .int (iI (oF f (atF f n) 3))) (congrArg (fun z : Int => Value.int (iI z)) (by rw [List.length_map, List.length_range]; omega)) ?_
    exact k_iret dX5_dateCount_11 rfl rfl (kOy_mk (v := (oF f (atF f n) 3)) (f' := f) (by first | exact kI_t (by first | omega | assumption) | exact kI_f (by first | omega | assumption)) (kSt_rf hC))
theorem w_X5_dayOf {l : Launch} {G : kG} {h : kAH} (hl : l.stackTraces = false) {pl : Nat} {γ : kGh} {A : kAb} {f : Nat → Int} (hC : kRp G h pl γ A f) {n x : Int} (rn : -2147483648 ≤ n ∧ n < 2147483648) (rx : -2147483648 ≤ x ∧ x < 2147483648) : kC l G m_X5_dayOf 6 1 6 [.ref pl, .int (iI n), .int (iI x)] h (kOy G pl γ h (TdayOf f n x)) (kOn G pl γ h (TdayOf f n x) ["", "java/util/NoSuchElementException", "java/lang/IndexOutOfBoundsException"]) := by
  have h8 := kWf_cnt hC.2.2
  refine kC_of hl rfl rfl (Nat.le_of_ble_eq_true rfl) (L := [some (.ref pl), some (.int (iI n)), some (.int (iI x))]) rfl ?_
  refine k_aload_n (pc1 := 1) dX5_dayOf_0 rfl rfl ?_
  refine k_iload_n (pc1 := 2) dX5_dayOf_1 rfl rfl ?_
  by_cases hn2 : atF f n < 0
  · skip
    refine k_callV dX5_dayOf_2 rfl lk_RX5_97 o_X5_meetingWith (as := [.int (iI n)]) rfl rfl (rp_P hC) rfl rfl (w_mwN hl hC (by omega) hn2) (by decide) (by decide) (by decide) (by decide) (k8 rfl) (fun v h9 z => z.elim) (fun E h9 z => kx_out rfl ?_)
    obtain ⟨hv1, hv2⟩ := z
    subst hv1
    rw [hv2]
    exact (kOn_mk (c := 1) (v := 0) (f' := f) (by first | exact kI_t (by first | omega | assumption) | exact (kI_f (by first | omega | assumption)).trans (kI_t (by first | omega | assumption)) | exact (kI_f (by first | omega | assumption)).trans (kI_f (by first | omega | assumption))) (by decide) rfl (kSt_rf hC))
  · skip
    refine k_callVP dX5_dayOf_2 rfl lk_RX5_97 o_X5_meetingWith (w_mwY hl hC (by omega) hn2) (as := [.int (iI n)]) (rp_P hC) rfl rfl rfl rfl (by decide) (by decide) (k8 rfl) ?_
    have h8 := kWf_cnt hC.2.2
    have hat := atF_r (f := f) (n := n) h8.1
    have hmm := kWf_m hC.2.2 (m := (atF f n)) (by omega) (by omega)
    have hmx := rp_Mx hC (m := (atF f n)) (by omega) (by omega)
    obtain ⟨arE, cE, hMd⟩ := rp_Md hC (m := (atF f n)) (by omega) (by omega)
    obtain ⟨mcE, hMe⟩ := hMd.1
    refine k_iload_n (pc1 := 6) dX5_dayOf_5 rfl rfl ?_
    by_cases hd6 : 0 ≤ x ∧ x < oF f (atF f n) 3
    · skip
      refine k_callSP dX5_dayOf_6 rfl lk_RX5_104 o_X5_dateWith (w_dwY hl hC (m := (atF f n)) (by omega) (by omega) (x := x) ⟨by omega, by omega⟩) (as := [.ref (gMt γ (oF f (atF f n) 0)), .int (iI x)]) rfl rfl rfl (by decide) (by decide) (k8 rfl) ?_
      have hi : inP f (atF f n) x := ⟨by omega, by omega, by omega, by omega⟩
      have hmd := kWf_d hC.2.2 hi.1 hi.2.1 hi.2.2.1 hi.2.2.2
      refine k_get (pc1 := 12) dX5_dayOf_9 rfl fd_RX5_108 (rp_D hC hi) (v := .ref (gSt γ (oF f (atF f n) 0) x)) rfl ?_
      refine k_get (pc1 := 15) dX5_dayOf_12 rfl fd_RX5_114 (rp_S hC hi) (v := .int (iI (dF f (atF f n) x 0))) rfl ?_
      exact k_iret dX5_dayOf_15 rfl rfl (kOy_mk (v := (dF f (atF f n) x 0)) (f' := f) (by first | exact kI_t (by first | omega | assumption) | exact (kI_f (by first | omega | assumption)).trans (kI_t (by first | omega | assumption)) | exact (kI_f (by first | omega | assumption)).trans (kI_f (by first | omega | assumption))) (kSt_rf hC))
    · skip
      refine k_callS dX5_dayOf_6 rfl rfl lk_RX5_104 o_X5_dateWith (as := [.ref (gMt γ (oF f (atF f n) 0)), .int (iI x)]) rfl rfl (w_dwN hl hC (m := (atF f n)) (by omega) (by omega) (x := x) (by omega) hd6) (by decide) (by decide) (by decide) (by decide) (k8 rfl) (fun v h9 z => z.elim) (fun E h9 z => kx_out rfl ?_)
      obtain ⟨hv1, hv2⟩ := z
      subst hv1
      rw [hv2]
      exact (kOn_mk (c := 2) (v := 0) (f' := f) (by first | exact kI_t (by first | omega | assumption) | exact (kI_f (by first | omega | assumption)).trans (kI_t (by first | omega | assumption)) | exact (kI_f (by first | omega | assumption)).trans (kI_f (by first | omega | assumption))) (by decide) rfl (kSt_rf hC))
theorem w_X5_timeOf {l : Launch} {G : kG} {h : kAH} (hl : l.stackTraces = false) {pl : Nat} {γ : kGh} {A : kAb} {f : Nat → Int} (hC : kRp G h pl γ A f) {n x : Int} (rn : -2147483648 ≤ n ∧ n < 2147483648) (rx : -2147483648 ≤ x ∧ x < 2147483648) : kC l G m_X5_timeOf 6 1 6 [.ref pl, .int (iI n), .int (iI x)] h (kOy G pl γ h (TtimeOf f n x)) (kOn G pl γ h (TtimeOf f n x) ["", "java/util/NoSuchElementException", "java/lang/IndexOutOfBoundsException"]) := by
  have h8 := kWf_cnt hC.2.2
  refine kC_of hl rfl rfl (Nat.le_of_ble_eq_true rfl) (L := [some (.ref pl), some (.int (iI n)), some (.int (iI x))]) rfl ?_
  refine k_aload_n (pc1 := 1) dX5_timeOf_0 rfl rfl ?_
  refine k_iload_n (pc1 := 2) dX5_timeOf_1 rfl rfl ?_
  by_cases hn2 : atF f n < 0
  · skip
    refine k_callV dX5_timeOf_2 rfl lk_RX5_97 o_X5_meetingWith (as := [.int (iI n)]) rfl rfl (rp_P hC) rfl rfl (w_mwN hl hC (by omega) hn2) (by decide) (by decide) (by decide) (by decide) (k8 rfl) (fun v h9 z => z.elim) (fun E h9 z => kx_out rfl ?_)
    obtain ⟨hv1, hv2⟩ := z
    subst hv1
    rw [hv2]
    exact (kOn_mk (c := 1) (v := 0) (f' := f) (by first | exact kI_t (by first | omega | assumption) | exact (kI_f (by first | omega | assumption)).trans (kI_t (by first | omega | assumption)) | exact (kI_f (by first | omega | assumption)).trans (kI_f (by first | omega | assumption))) (by decide) rfl (kSt_rf hC))
  · skip
    refine k_callVP dX5_timeOf_2 rfl lk_RX5_97 o_X5_meetingWith (w_mwY hl hC (by omega) hn2) (as := [.int (iI n)]) (rp_P hC) rfl rfl rfl rfl (by decide) (by decide) (k8 rfl) ?_
    have h8 := kWf_cnt hC.2.2
    have hat := atF_r (f := f) (n := n) h8.1
    have hmm := kWf_m hC.2.2 (m := (atF f n)) (by omega) (by omega)
    have hmx := rp_Mx hC (m := (atF f n)) (by omega) (by omega)
    obtain ⟨arE, cE, hMd⟩ := rp_Md hC (m := (atF f n)) (by omega) (by omega)
    obtain ⟨mcE, hMe⟩ := hMd.1
    refine k_iload_n (pc1 := 6) dX5_timeOf_5 rfl rfl ?_
    by_cases hd6 : 0 ≤ x ∧ x < oF f (atF f n) 3
    · skip
      refine k_callSP dX5_timeOf_6 rfl lk_RX5_104 o_X5_dateWith (w_dwY hl hC (m := (atF f n)) (by omega) (by omega) (x := x) ⟨by omega, by omega⟩) (as := [.ref (gMt γ (oF f (atF f n) 0)), .int (iI x)]) rfl rfl rfl (by decide) (by decide) (k8 rfl) ?_
      have hi : inP f (atF f n) x := ⟨by omega, by omega, by omega, by omega⟩
      have hmd := kWf_d hC.2.2 hi.1 hi.2.1 hi.2.2.1 hi.2.2.2
      refine k_get (pc1 := 12) dX5_timeOf_9 rfl fd_RX5_108 (rp_D hC hi) (v := .ref (gSt γ (oF f (atF f n) 0) x)) rfl ?_
      refine k_get (pc1 := 15) dX5_timeOf_12 rfl fd_RX5_122 (rp_S hC hi) (v := .int (iI (dF f (atF f n) x 1))) rfl ?_
      exact k_iret dX5_timeOf_15 rfl rfl (kOy_mk (v := (dF f (atF f n) x 1)) (f' := f) (by first | exact kI_t (by first | omega | assumption) | exact (kI_f (by first | omega | assumption)).trans (kI_t (by first | omega | assumption)) | exact (kI_f (by first | omega | assumption)).trans (kI_f (by first | omega | assumption))) (kSt_rf hC))
    · skip
      refine k_callS dX5_timeOf_6 rfl rfl lk_RX5_104 o_X5_dateWith (as := [.ref (gMt γ (oF f (atF f n) 0)), .int (iI x)]) rfl rfl (w_dwN hl hC (m := (atF f n)) (by omega) (by omega) (x := x) (by omega) hd6) (by decide) (by decide) (by decide) (by decide) (k8 rfl) (fun v h9 z => z.elim) (fun E h9 z => kx_out rfl ?_)
      obtain ⟨hv1, hv2⟩ := z
      subst hv1
      rw [hv2]
      exact (kOn_mk (c := 2) (v := 0) (f' := f) (by first | exact kI_t (by first | omega | assumption) | exact (kI_f (by first | omega | assumption)).trans (kI_t (by first | omega | assumption)) | exact (kI_f (by first | omega | assumption)).trans (kI_f (by first | omega | assumption))) (by decide) rfl (kSt_rf hC))
