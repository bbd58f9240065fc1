/-! ===== the class: more of its public queries, walked ===== -/
theorem w_X5_meetingAt {l : Launch} {G : kG} {h : kAH} (hl : l.stackTraces = false) {pl : Nat} {γ : kGh} {A : kAb} {f : Nat → Int} (hC : kRp G h pl γ A f) {a : Int} (ra : -2147483648 ≤ a ∧ a < 2147483648) : kC l G m_X5_meetingAt 4 1 6 [.ref pl, .int (iI a)] h (kOy G pl γ h (TmeetingAt f a)) (kOn G pl γ h (TmeetingAt f a) ["", "java/util/NoSuchElementException"]) := by
  have h8 := kWf_cnt hC.2.2
  refine kC_of hl rfl rfl (Nat.le_of_ble_eq_true rfl) (L := [some (.ref pl), some (.int (iI a))]) rfl ?_
  obtain ⟨arM, cM, hMl⟩ := rp_Ml hC
  obtain ⟨mcM, hMa⟩ := hMl.1
  have h8 := kWf_cnt hC.2.2
  refine k_iload_n (pc1 := 1) dX5_meetingAt_0 rfl rfl ?_
  refine k_if_lt (a := a) dX5_meetingAt_1 rfl (tgt := 15) rfl (by omega) (fun c1 : a < 0 => ?_) (fun c1 : ¬ a < 0 => ?_)
  · skip
    exact k_throwX 18 19 21 24 rfl nse_0 nse_1 nse_2 nse_5 rfl dX5_meetingAt_15 dX5_meetingAt_18 dX5_meetingAt_19 dX5_meetingAt_21 dX5_meetingAt_24 rfl rfl rfl rfl rfl (by decide) (by decide) cl_RX5_198 ini_NoSuchElementException (text := "no such rank") (by decide +kernel) ax_RX5_202 (k8 rfl) (by decide) (by decide) (kOn_mk (c := 1) (v := 0) (f' := f) (by first | exact kI_t (by first | omega | assumption) | exact kI_f (by first | omega | assumption)) (by decide) rfl (kSt_rf hC))
  · skip
    refine k_iload_n (pc1 := 5) dX5_meetingAt_4 rfl rfl ?_
    refine k_aload_n (pc1 := 6) dX5_meetingAt_5 rfl rfl ?_
    refine k_get (pc1 := 9) dX5_meetingAt_6 rfl fd_RX5_28 (rp_P hC) (v := .ref (gMl γ)) rfl ?_
    refine k_callVP dX5_meetingAt_9 rfl lk_RX5_65 o_Jx4a65c_size_8abf5 (w_lsz hl hMl) (as := []) hMa rfl rfl rfl rfl (by decide) (by decide) (k8 rfl) ?_
    refine k_val (v' := .int (iI (f 1))) (congrArg (fun z : Int => Value.int (iI z)) (by rw [List.length_map, List.length_range]; omega)) ?_
    refine k_icmp_lt (a := a) (b := (f 1)) dX5_meetingAt_12 rfl (tgt := 25) rfl (by omega) (by omega) (fun c12 : a < (f 1) => ?_) (fun c12 : (f 1) ≤ a => ?_)
    · skip
      refine k_aload_n (pc1 := 26) dX5_meetingAt_25 rfl rfl ?_
      refine k_get (pc1 := 29) dX5_meetingAt_26 rfl fd_RX5_28 (rp_P hC) (v := .ref (gMl γ)) rfl ?_
      refine k_iload_n (pc1 := 30) dX5_meetingAt_29 rfl rfl ?_
      refine k_callVP dX5_meetingAt_30 rfl lk_RX5_131 o_Jx4a65c_get_915e3 (w_lgt hl hMl a ⟨by omega, by rw [List.length_map, List.length_range]; omega⟩ (by rw [List.getElem?_map, List.getElem?_range (by omega)]; show some (gMt γ (oF f ((Int.toNat a : Nat) : Int) 0)) = _; rw [Int.toNat_of_nonneg (by omega)])) (as := [.int (iI a)]) hMa rfl rfl rfl rfl (by decide) (by decide) (k8 rfl) ?_
      have hmm := kWf_m hC.2.2 (m := a) (by omega) (by omega)
      have hmx := rp_Mx hC (m := a) (by omega) (by omega)
      obtain ⟨arE, cE, hMd⟩ := rp_Md hC (m := a) (by omega) (by omega)
      obtain ⟨mcE, hMe⟩ := hMd.1
      refine k_cast (r := (RX2, TX2, 6)) (pc1 := 36) dX5_meetingAt_33 rfl cl_RX5_76 (rp_M hC (m := a) (by omega) (by omega)) rfl ?_
      refine k_get (pc1 := 39) dX5_meetingAt_36 rfl fd_RX5_94 (rp_M hC (m := a) (by omega) (by omega)) (v := .int (iI (oF f a 0))) rfl ?_
      exact k_iret dX5_meetingAt_39 rfl rfl (kOy_mk (v := (oF f a 0)) (f' := f) (by first | exact kI_t (by first | omega | assumption) | exact kI_f (by first | omega | assumption)) (kSt_rf hC))
    · skip
      exact k_throwX 18 19 21 24 rfl nse_0 nse_1 nse_2 nse_5 rfl dX5_meetingAt_15 dX5_meetingAt_18 dX5_meetingAt_19 dX5_meetingAt_21 dX5_meetingAt_24 rfl rfl rfl rfl rfl (by decide) (by decide) cl_RX5_198 ini_NoSuchElementException (text := "no such rank") (by decide +kernel) ax_RX5_202 (k8 rfl) (by decide) (by decide) (kOn_mk (c := 1) (v := 0) (f' := f) (by first | exact kI_t (by first | omega | assumption) | exact kI_f (by first | omega | assumption)) (by decide) rfl (kSt_rf hC))
theorem rp_af {G : kG} {h : kAH} {pl : Nat} {γ : kGh} {A : kAb} {f : Nat → Int} (q : kRp G h pl γ A f) {m p : Int} (h0 : 0 ≤ m) (h1 : m < f 1) (hp : 0 ≤ p ∧ p < 6) : kI (p = oF f m 1) 104 (kI (¬ (aAk A (oF f m 0)).testBit p.toNat = true) 45 (kI ((aYs A (oF f m 0)).testBit p.toNat = true) 121 (kI ((aNo A (oF f m 0)).testBit p.toNat = true) 110 111))) = kI (p = oF f m 1) 104 (oF f m (4 + p)) := by
  obtain ⟨i, rfl⟩ := Int.eq_ofNat_of_zero_le hp.1
  obtain ⟨-, -, -, x⟩ := rp_Mx q h0 h1
  obtain ⟨x1, x2, x3⟩ := x i (by omega)
  have g := (kWf_p q.2.2 h0 h1 (p := (i : Int)) (by omega) (by omega)).1
  refine kI_cg Iff.rfl (fun _ => rfl) (fun _ => ?_)
  rw [Int.toNat_natCast]
  by_cases c1 : oF f m (4 + (i : Int)) = 45
  · rw [kI_t (fun z => (x1.mp z) c1), c1]
  · rw [kI_f (fun z => z (x1.mpr c1))]
    by_cases c2 : oF f m (4 + (i : Int)) = 121
    · rw [kI_t (x2.mpr c2), c2]
    · rw [kI_f (fun z => c2 (x2.mp z))]
      by_cases c3 : oF f m (4 + (i : Int)) = 110
      · rw [kI_t (x3.mpr c3), c3]
      · rw [kI_f (fun z => c3 (x3.mp z))]; omega
theorem kLv_of {G : kG} {h : kAH} {pl : Nat} {γ : kGh} {A : kAb} {f : Nat → Int} (q : kRp G h pl γ A f) {m d : Int} (hi : inP f m d) : kLv γ f (some (gDt γ (oF f m 0) d)) m d := fun m' d' hi' => ⟨fun z => (rp_dd q hi' hi).mp (Option.some.inj z), fun z => congrArg some ((rp_dd q hi' hi).mpr z)⟩
theorem w_X5_answerOf {l : Launch} {G : kG} {h : kAH} (hl : l.stackTraces = false) {pl : Nat} {γ : kGh} {A : kAb} {f : Nat → Int} (hC : kRp G h pl γ A f) {n p : Int} (rn : -2147483648 ≤ n ∧ n < 2147483648) (rp : -2147483648 ≤ p ∧ p < 2147483648) : kC l G m_X5_answerOf 6 1 6 [.ref pl, .int (iI n), .int (iI p)] h (kOy G pl γ h (TanswerOf f n p)) (kOn G pl γ h (TanswerOf f n p) ["", "java/util/NoSuchElementException", "java/lang/IllegalArgumentException"]) := by
  have h8 := kWf_cnt hC.2.2
  refine kC_of hl rfl rfl (Nat.le_of_ble_eq_true rfl) (L := [some (.ref pl), some (.int (iI n)), some (.int (iI p)), none]) rfl ?_
  refine k_aload_n (pc1 := 1) dX5_answerOf_0 rfl rfl ?_
  refine k_iload_n (pc1 := 2) dX5_answerOf_1 rfl rfl ?_
  by_cases hn2 : atF f n < 0
  · skip
    refine k_callV dX5_answerOf_2 rfl lk_RX5_97 o_X5_meetingWith (as := [.int (iI n)]) rfl rfl (rp_P hC) rfl rfl (w_mwN hl hC (by omega) hn2) (by decide) (by decide) (by decide) (by decide) (k8 rfl) (fun v h9 z => z.elim) (fun E h9 z => kx_out rfl ?_)
    obtain ⟨hv1, hv2⟩ := z
    subst hv1
    rw [hv2]
    exact (kOn_mk (c := 1) (v := 32) (f' := f) (by first | exact kI_t (by first | omega | assumption) | exact (kI_f (by first | omega | assumption)).trans (kI_t (by first | omega | assumption)) | exact (kI_f (by first | omega | assumption)).trans (kI_f (by first | omega | assumption))) (by decide) rfl (kSt_rf hC))
  · skip
    refine k_callVP dX5_answerOf_2 rfl lk_RX5_97 o_X5_meetingWith (w_mwY hl hC (by omega) hn2) (as := [.int (iI n)]) (rp_P hC) rfl rfl rfl rfl (by decide) (by decide) (k8 rfl) ?_
    have h8 := kWf_cnt hC.2.2
    have hat := atF_r (f := f) (n := n) h8.1
    have hmm := kWf_m hC.2.2 (m := (atF f n)) (by omega) (by omega)
    have hmx := rp_Mx hC (m := (atF f n)) (by omega) (by omega)
    obtain ⟨arE, cE, hMd⟩ := rp_Md hC (m := (atF f n)) (by omega) (by omega)
    obtain ⟨mcE, hMe⟩ := hMd.1
    refine k_astore_n (pc1 := 6) dX5_answerOf_5 rfl (by decide) (k_loc (L' := [some (.ref pl), some (.int (iI n)), some (.int (iI p)), some (.ref (gMt γ (oF f (atF f n) 0)))]) rfl ?_)
    refine k_iload_n (pc1 := 7) dX5_answerOf_6 rfl rfl ?_
    by_cases hq7 : 0 ≤ p ∧ p ≤ 5
    · skip
      refine k_callS dX5_answerOf_7 rfl rfl lk_RX5_58 o_X5_requirePerson (as := [.int (iI p)]) rfl rfl (w_rpY hl (by omega) hq7) (by decide) (by decide) (by decide) (by decide) (k8 rfl) (fun v h9 hv => ?_) (fun E h9 z => z.elim)
      obtain ⟨hv1, hv2⟩ := hv
      subst hv1
      rw [hv2]
      refine k_st (st' := []) rfl ?_
      refine k_aload_n (pc1 := 11) dX5_answerOf_10 rfl rfl ?_
      refine k_iload_n (pc1 := 12) dX5_answerOf_11 rfl rfl ?_
      refine k_callVP dX5_answerOf_12 rfl lk_RX5_156 o_X2_answerFrom (w_X2_answerFrom hl (rp_M hC (m := (atF f n)) (by omega) (by omega)) ⟨by omega, by omega⟩ hmx.1 hmx.2.1 hmx.2.2.1 p ⟨by omega, by omega⟩) (as := [.int (iI p)]) (rp_M hC (m := (atF f n)) (by omega) (by omega)) rfl rfl rfl rfl (by decide) (by decide) (k8 rfl) ?_
      refine k_val (v' := .int (iI (kI (p = oF f (atF f n) 1) 104 (oF f (atF f n) (4 + p))))) (congrArg (fun z => Value.int (iI z)) (rp_af hC (by omega) (by omega) ⟨by omega, by omega⟩)) ?_
      have hpp := kWf_p hC.2.2 (m := (atF f n)) (p := p) (by omega) (by omega) (by omega) (by omega)
      have haf : 0 ≤ (kI (p = oF f (atF f n) 1) 104 (oF f (atF f n) (4 + p))) ∧ (kI (p = oF f (atF f n) 1) 104 (oF f (atF f n) (4 + p))) < 65536 := by
        by_cases z : p = oF f (atF f n) 1
        · rw [kI_t z]; decide
        · rw [kI_f z]; omega
      exact k_iret dX5_answerOf_15 rfl (kn_c (by omega) (by omega)) (kOy_mk (v := (kI (p = oF f (atF f n) 1) 104 (oF f (atF f n) (4 + p)))) (f' := f) (by first | exact kI_t (by first | omega | assumption) | exact (kI_f (by first | omega | assumption)).trans (kI_t (by first | omega | assumption)) | exact (kI_f (by first | omega | assumption)).trans (kI_f (by first | omega | assumption))) (kSt_rf hC))
    · skip
      refine k_callS dX5_answerOf_7 rfl rfl lk_RX5_58 o_X5_requirePerson (as := [.int (iI p)]) rfl rfl (w_rpN hl (by omega) hq7) (by decide) (by decide) (by decide) (by decide) (k8 rfl) (fun v h9 z => z.elim) (fun E h9 z => kx_out rfl ?_)
      obtain ⟨hv1, hv2⟩ := z
      subst hv1
      rw [hv2]
      exact (kOn_mk (c := 2) (v := 32) (f' := f) (by first | exact kI_t (by first | omega | assumption) | exact (kI_f (by first | omega | assumption)).trans (kI_t (by first | omega | assumption)) | exact (kI_f (by first | omega | assumption)).trans (kI_f (by first | omega | assumption))) (by decide) rfl (kSt_rf hC))
theorem w_X5_isCancelled {l : Launch} {G : kG} {h : kAH} (hl : l.stackTraces = false) {pl : Nat} {γ : kGh} {A : kAb} {f : Nat → Int} (hC : kRp G h pl γ A f) {n x : Int} (rn : -2147483648 ≤ n ∧ n < 2147483648) (rx : -2147483648 ≤ x ∧ x < 2147483648) : kC l G m_X5_isCancelled 6 1 6 [.ref pl, .int (iI n), .int (iI x)] h (kOy G pl γ h (TisCancelled f n x)) (kOn G pl γ h (TisCancelled f n x) ["", "java/util/NoSuchElementException", "java/lang/IndexOutOfBoundsException"]) := by
  have h8 := kWf_cnt hC.2.2
  refine kC_of hl rfl rfl (Nat.le_of_ble_eq_true rfl) (L := [some (.ref pl), some (.int (iI n)), some (.int (iI x))]) rfl ?_
  refine k_aload_n (pc1 := 1) dX5_isCancelled_0 rfl rfl ?_
  refine k_iload_n (pc1 := 2) dX5_isCancelled_1 rfl rfl ?_
  by_cases hn2 : atF f n < 0
  · skip
    refine k_callV dX5_isCancelled_2 rfl lk_RX5_97 o_X5_meetingWith (as := [.int (iI n)]) rfl rfl (rp_P hC) rfl rfl (w_mwN hl hC (by omega) hn2) (by decide) (by decide) (by decide) (by decide) (k8 rfl) (fun v h9 z => z.elim) (fun E h9 z => kx_out rfl ?_)
    obtain ⟨hv1, hv2⟩ := z
    subst hv1
    rw [hv2]
    exact (kOn_mk (c := 1) (v := 0) (f' := f) (by first | exact kI_t (by first | omega | assumption) | exact (kI_f (by first | omega | assumption)).trans (kI_t (by first | omega | assumption)) | exact (kI_f (by first | omega | assumption)).trans (kI_f (by first | omega | assumption))) (by decide) rfl (kSt_rf hC))
  · skip
    refine k_callVP dX5_isCancelled_2 rfl lk_RX5_97 o_X5_meetingWith (w_mwY hl hC (by omega) hn2) (as := [.int (iI n)]) (rp_P hC) rfl rfl rfl rfl (by decide) (by decide) (k8 rfl) ?_
    have h8 := kWf_cnt hC.2.2
    have hat := atF_r (f := f) (n := n) h8.1
    have hmm := kWf_m hC.2.2 (m := (atF f n)) (by omega) (by omega)
    have hmx := rp_Mx hC (m := (atF f n)) (by omega) (by omega)
    obtain ⟨arE, cE, hMd⟩ := rp_Md hC (m := (atF f n)) (by omega) (by omega)
    obtain ⟨mcE, hMe⟩ := hMd.1
    refine k_iload_n (pc1 := 6) dX5_isCancelled_5 rfl rfl ?_
    by_cases hd6 : 0 ≤ x ∧ x < oF f (atF f n) 3
    · skip
      refine k_callSP dX5_isCancelled_6 rfl lk_RX5_104 o_X5_dateWith (w_dwY hl hC (m := (atF f n)) (by omega) (by omega) (x := x) ⟨by omega, by omega⟩) (as := [.ref (gMt γ (oF f (atF f n) 0)), .int (iI x)]) rfl rfl rfl (by decide) (by decide) (k8 rfl) ?_
      have hi : inP f (atF f n) x := ⟨by omega, by omega, by omega, by omega⟩
      have hmd := kWf_d hC.2.2 hi.1 hi.2.1 hi.2.2.1 hi.2.2.2
      refine k_get (pc1 := 12) dX5_isCancelled_9 rfl fd_RX5_175 (rp_D hC hi) (v := .int (iI (dF f (atF f n) x 2))) rfl ?_
      have hg : dF f (atF f n) x 2 = kB (¬ onF f (atF f n) x) := by
        by_cases z : dF f (atF f n) x 2 = 0
        · rw [z, kB_f (fun y => y z)]
        · rw [kB_t (show ¬ onF f (atF f n) x from z)]; omega
      exact k_iret dX5_isCancelled_12 rfl (by rw [hg]; exact kn_b _) (kOy_mk (v := dF f (atF f n) x 2) (f' := f) (by rw [TisCancelled, kI_f (by omega), kI_t (by omega), hg]) (kSt_rf hC))
    · skip
      refine k_callS dX5_isCancelled_6 rfl rfl lk_RX5_104 o_X5_dateWith (as := [.ref (gMt γ (oF f (atF f n) 0)), .int (iI x)]) rfl rfl (w_dwN hl hC (m := (atF f n)) (by omega) (by omega) (x := x) (by omega) hd6) (by decide) (by decide) (by decide) (by decide) (k8 rfl) (fun v h9 z => z.elim) (fun E h9 z => kx_out rfl ?_)
      obtain ⟨hv1, hv2⟩ := z
      subst hv1
      rw [hv2]
      exact (kOn_mk (c := 2) (v := 0) (f' := f) (by first | exact kI_t (by first | omega | assumption) | exact (kI_f (by first | omega | assumption)).trans (kI_t (by first | omega | assumption)) | exact (kI_f (by first | omega | assumption)).trans (kI_f (by first | omega | assumption))) (by decide) rfl (kSt_rf hC))
theorem w_X5_roomOf {l : Launch} {G : kG} {h : kAH} (hl : l.stackTraces = false) {pl : Nat} {γ : kGh} {A : kAb} {f : Nat → Int} (hC : kRp G h pl γ A f) {n x : Int} (rn : -2147483648 ≤ n ∧ n < 2147483648) (rx : -2147483648 ≤ x ∧ x < 2147483648) : kC l G m_X5_roomOf 6 1 6 [.ref pl, .int (iI n), .int (iI x)] h (kOy G pl γ h (TroomOf f n x)) (kOn G pl γ h (TroomOf f n x) ["", "java/util/NoSuchElementException", "java/lang/IndexOutOfBoundsException", "java/lang/IllegalStateException"]) := by
  have h8 := kWf_cnt hC.2.2
  refine kC_of hl rfl rfl (Nat.le_of_ble_eq_true rfl) (L := [some (.ref pl), some (.int (iI n)), some (.int (iI x))]) rfl ?_
  refine k_aload_n (pc1 := 1) dX5_roomOf_0 rfl rfl ?_
  refine k_iload_n (pc1 := 2) dX5_roomOf_1 rfl rfl ?_
  by_cases hn2 : atF f n < 0
  · skip
    refine k_callV dX5_roomOf_2 rfl lk_RX5_97 o_X5_meetingWith (as := [.int (iI n)]) rfl rfl (rp_P hC) rfl rfl (w_mwN hl hC (by omega) hn2) (by decide) (by decide) (by decide) (by decide) (k8 rfl) (fun v h9 z => z.elim) (fun E h9 z => kx_out rfl ?_)
    obtain ⟨hv1, hv2⟩ := z
    subst hv1
    rw [hv2]
    exact (kOn_mk (c := 1) (v := 0) (f' := f) (by first | exact kI_t (by omega) | exact (kI_f (by omega)).trans (kI_f (by omega)) | (unfold TroomOf; rw [kI_f (by omega), kI_t (by omega)]; first | rw [kI_t (by assumption)] | rw [kI_f (by assumption)])) (by decide) rfl (kSt_rf hC))
  · skip
    refine k_callVP dX5_roomOf_2 rfl lk_RX5_97 o_X5_meetingWith (w_mwY hl hC (by omega) hn2) (as := [.int (iI n)]) (rp_P hC) rfl rfl rfl rfl (by decide) (by decide) (k8 rfl) ?_
    have h8 := kWf_cnt hC.2.2
    have hat := atF_r (f := f) (n := n) h8.1
    have hmm := kWf_m hC.2.2 (m := (atF f n)) (by omega) (by omega)
    have hmx := rp_Mx hC (m := (atF f n)) (by omega) (by omega)
    obtain ⟨arE, cE, hMd⟩ := rp_Md hC (m := (atF f n)) (by omega) (by omega)
    obtain ⟨mcE, hMe⟩ := hMd.1
    refine k_iload_n (pc1 := 6) dX5_roomOf_5 rfl rfl ?_
    by_cases hd6 : 0 ≤ x ∧ x < oF f (atF f n) 3
    · skip
      by_cases ho6 : onF f (atF f n) x
      · skip
        refine k_callSP dX5_roomOf_6 rfl lk_RX5_172 o_X5_standingDateWith (w_swY hl hC (m := (atF f n)) (by omega) (by omega) (x := x) ⟨by omega, by omega⟩ ho6) (as := [.ref (gMt γ (oF f (atF f n) 0)), .int (iI x)]) rfl rfl rfl (by decide) (by decide) (k8 rfl) ?_
        have hi : inP f (atF f n) x := ⟨by omega, by omega, by omega, by omega⟩
        have hmd := kWf_d hC.2.2 hi.1 hi.2.1 hi.2.2.1 hi.2.2.2
        refine k_get (pc1 := 12) dX5_roomOf_9 rfl fd_RX5_190 (rp_D hC hi) (v := .ref (gRm γ (dF f (atF f n) x 3))) rfl ?_
        refine k_get (pc1 := 15) dX5_roomOf_12 rfl fd_RX5_197 (rp_R hC (r := dF f (atF f n) x 3) (by omega) (by omega)) (v := .int (iI (dF f (atF f n) x 3))) rfl ?_
        exact k_iret dX5_roomOf_15 rfl rfl (kOy_mk (v := (dF f (atF f n) x 3)) (f' := f) (by first | exact kI_t (by omega) | exact (kI_f (by omega)).trans (kI_f (by omega)) | (unfold TroomOf; rw [kI_f (by omega), kI_t (by omega)]; first | rw [kI_t (by assumption)] | rw [kI_f (by assumption)])) (kSt_rf hC))
      · skip
        refine k_callS dX5_roomOf_6 rfl rfl lk_RX5_172 o_X5_standingDateWith (as := [.ref (gMt γ (oF f (atF f n) 0)), .int (iI x)]) rfl rfl (w_swC hl hC (m := (atF f n)) (by omega) (by omega) (x := x) ⟨by omega, by omega⟩ ho6) (by decide) (by decide) (by decide) (by decide) (k8 rfl) (fun v h9 z => z.elim) (fun E h9 z => kx_out rfl ?_)
        obtain ⟨hv1, hv2⟩ := z
        subst hv1
        rw [hv2]
        exact (kOn_mk (c := 3) (v := 0) (f' := f) (by first | exact kI_t (by omega) | exact (kI_f (by omega)).trans (kI_f (by omega)) | (unfold TroomOf; rw [kI_f (by omega), kI_t (by omega)]; first | rw [kI_t (by assumption)] | rw [kI_f (by assumption)])) (by decide) rfl (kSt_rf hC))
    · skip
      refine k_callS dX5_roomOf_6 rfl rfl lk_RX5_172 o_X5_standingDateWith (as := [.ref (gMt γ (oF f (atF f n) 0)), .int (iI x)]) rfl rfl (w_swN hl hC (m := (atF f n)) (by omega) (by omega) (x := x) (by omega) hd6) (by decide) (by decide) (by decide) (by decide) (k8 rfl) (fun v h9 z => z.elim) (fun E h9 z => kx_out rfl ?_)
      obtain ⟨hv1, hv2⟩ := z
      subst hv1
      rw [hv2]
      exact (kOn_mk (c := 2) (v := 0) (f' := f) (by first | exact kI_t (by omega) | exact (kI_f (by omega)).trans (kI_f (by omega)) | (unfold TroomOf; rw [kI_f (by omega), kI_t (by omega)]; first | rw [kI_t (by assumption)] | rw [kI_f (by assumption)])) (by decide) rfl (kSt_rf hC))
theorem w_rrN {l : Launch} {G : kG} {h : kAH} (hl : l.stackTraces = false) {pl : Nat} {γ : kGh} {A : kAb} {f : Nat → Int} (hC : kRp G h pl γ A f) (hz : f 3 = 0) : kC l G m_X5_requireRefusal 1 1 6 [.ref pl] h kNv (kTh "java/util/NoSuchElementException" h) := by
  have hrs := kWf_rsn hC.2.2
  refine kC_of hl rfl rfl (Nat.le_of_ble_eq_true rfl) (L := [some (.ref pl)]) rfl ?_
  refine k_aload_n (pc1 := 1) dX5_requireRefusal_0 rfl rfl ?_
  refine k_get (pc1 := 4) dX5_requireRefusal_1 rfl fd_RX5_39 (rp_P hC) (v := .int (iI (f 3))) rfl ?_
  refine k_if_ne (a := (f 3)) dX5_requireRefusal_4 rfl (tgt := 18) rfl (by omega) (fun c4 : (f 3) ≠ 0 => ?_) (fun c4 : (f 3) = 0 => ?_)
  · skip
    exfalso; omega
  · skip
    exact k_throwXW 10 11 14 17 rfl nse_0 nse_1 nse_2 nse_5 rfl dX5_requireRefusal_7 dX5_requireRefusal_10 dX5_requireRefusal_11 dX5_requireRefusal_14 dX5_requireRefusal_17 rfl rfl rfl rfl rfl (by decide) (by decide) cl_RX5_198 ini_NoSuchElementException (text := "nothing was refused") (by decide +kernel) ax_RX5_202 (k8 rfl) (by decide) (by decide) ⟨rfl, rfl⟩
theorem w_rrY {l : Launch} {G : kG} {h : kAH} (hl : l.stackTraces = false) {pl : Nat} {γ : kGh} {A : kAb} {f : Nat → Int} (hC : kRp G h pl γ A f) (hz : ¬ f 3 = 0) : kC l G m_X5_requireRefusal 1 0 0 [.ref pl] h (fun v h' => v = none ∧ h' = h) kNo := by
  have hrs := kWf_rsn hC.2.2
  refine kC_of hl rfl rfl (Nat.le_of_ble_eq_true rfl) (L := [some (.ref pl)]) rfl ?_
  refine k_aload_n (pc1 := 1) dX5_requireRefusal_0 rfl rfl ?_
  refine k_get (pc1 := 4) dX5_requireRefusal_1 rfl fd_RX5_39 (rp_P hC) (v := .int (iI (f 3))) rfl ?_
  refine k_if_ne (a := (f 3)) dX5_requireRefusal_4 rfl (tgt := 18) rfl (by omega) (fun c4 : (f 3) ≠ 0 => ?_) (fun c4 : (f 3) = 0 => ?_)
  · skip
    exact k_vret dX5_requireRefusal_18 rfl ⟨rfl, rfl⟩
  · skip
    exfalso; omega
theorem w_X5_refusalReason {l : Launch} {G : kG} {h : kAH} (hl : l.stackTraces = false) {pl : Nat} {γ : kGh} {A : kAb} {f : Nat → Int} (hC : kRp G h pl γ A f)  : kC l G m_X5_refusalReason 2 1 6 [.ref pl] h (kOy G pl γ h (TrefusalReason f)) (kOn G pl γ h (TrefusalReason f) ["", "java/util/NoSuchElementException"]) := by
  have h8 := kWf_cnt hC.2.2
  refine kC_of hl rfl rfl (Nat.le_of_ble_eq_true rfl) (L := [some (.ref pl)]) rfl ?_
  refine k_aload_n (pc1 := 1) dX5_refusalReason_0 rfl rfl ?_
  by_cases hz : f 3 = 0
  · skip
    refine k_callV dX5_refusalReason_1 rfl lk_RX5_209 o_X5_requireRefusal (as := []) rfl rfl (rp_P hC) rfl rfl (w_rrN hl hC hz) (by decide) (by decide) (by decide) (by decide) (k8 rfl) (fun v h9 z => z.elim) (fun E h9 z => kx_out rfl ?_)
    obtain ⟨hv1, hv2⟩ := z
    subst hv1
    rw [hv2]
    exact (kOn_mk (c := 1) (v := 0) (f' := f) (by first | exact kI_t (by first | omega | assumption) | exact kI_f (by first | omega | assumption)) (by decide) rfl (kSt_rf hC))
  · skip
    refine k_callV dX5_refusalReason_1 rfl lk_RX5_209 o_X5_requireRefusal (as := []) rfl rfl (rp_P hC) rfl rfl (w_rrY hl hC hz) (by decide) (by decide) (by decide) (by decide) (k8 rfl) (fun v h9 hv => ?_) (fun E h9 z => z.elim)
    obtain ⟨hv1, hv2⟩ := hv
    subst hv1
    rw [hv2]
    refine k_st (st' := []) rfl ?_
    refine k_aload_n (pc1 := 5) dX5_refusalReason_4 rfl rfl ?_
    refine k_get (pc1 := 8) dX5_refusalReason_5 rfl fd_RX5_39 (rp_P hC) (v := .int (iI (f 3))) rfl ?_
    exact k_iret dX5_refusalReason_8 rfl rfl (kOy_mk (v := (f 3)) (f' := f) (by first | exact kI_t (by first | omega | assumption) | exact kI_f (by first | omega | assumption)) (kSt_rf hC))
theorem w_X5_refusalDetail {l : Launch} {G : kG} {h : kAH} (hl : l.stackTraces = false) {pl : Nat} {γ : kGh} {A : kAb} {f : Nat → Int} (hC : kRp G h pl γ A f)  : kC l G m_X5_refusalDetail 2 1 6 [.ref pl] h (kOy G pl γ h (TrefusalDetail f)) (kOn G pl γ h (TrefusalDetail f) ["", "java/util/NoSuchElementException"]) := by
  have h8 := kWf_cnt hC.2.2
  refine kC_of hl rfl rfl (Nat.le_of_ble_eq_true rfl) (L := [some (.ref pl)]) rfl ?_
  refine k_aload_n (pc1 := 1) dX5_refusalDetail_0 rfl rfl ?_
  by_cases hz : f 3 = 0
  · skip
    refine k_callV dX5_refusalDetail_1 rfl lk_RX5_209 o_X5_requireRefusal (as := []) rfl rfl (rp_P hC) rfl rfl (w_rrN hl hC hz) (by decide) (by decide) (by decide) (by decide) (k8 rfl) (fun v h9 z => z.elim) (fun E h9 z => kx_out rfl ?_)
    obtain ⟨hv1, hv2⟩ := z
    subst hv1
    rw [hv2]
    exact (kOn_mk (c := 1) (v := 0) (f' := f) (by first | exact kI_t (by first | omega | assumption) | exact kI_f (by first | omega | assumption)) (by decide) rfl (kSt_rf hC))
  · skip
    refine k_callV dX5_refusalDetail_1 rfl lk_RX5_209 o_X5_requireRefusal (as := []) rfl rfl (rp_P hC) rfl rfl (w_rrY hl hC hz) (by decide) (by decide) (by decide) (by decide) (k8 rfl) (fun v h9 hv => ?_) (fun E h9 z => z.elim)
    obtain ⟨hv1, hv2⟩ := hv
    subst hv1
    rw [hv2]
    refine k_st (st' := []) rfl ?_
    refine k_aload_n (pc1 := 5) dX5_refusalDetail_4 rfl rfl ?_
    refine k_get (pc1 := 8) dX5_refusalDetail_5 rfl fd_RX5_42 (rp_P hC) (v := .int (iI (f 4))) rfl ?_
    exact k_iret dX5_refusalDetail_8 rfl rfl (kOy_mk (v := (f 4)) (f' := f) (by first | exact kI_t (by first | omega | assumption) | exact kI_f (by first | omega | assumption)) (kSt_rf hC))
theorem w_X5_isFree {l : Launch} {G : kG} {h : kAH} (hl : l.stackTraces = false) {pl : Nat} {γ : kGh} {A : kAb} {f : Nat → Int} (hC : kRp G h pl γ A f) {p k t : Int} (rp : -2147483648 ≤ p ∧ p < 2147483648) (rk : -2147483648 ≤ k ∧ k < 2147483648) (rt : -2147483648 ≤ t ∧ t < 2147483648) : kC l G m_X5_isFree 5 1 6 [.ref pl, .int (iI p), .int (iI k), .int (iI t)] h (kOy G pl γ h (TisFree f p k t)) (kOn G pl γ h (TisFree f p k t) ["", "java/lang/IllegalArgumentException"]) := by
  have h8 := kWf_cnt hC.2.2
  refine kC_of hl rfl rfl (Nat.le_of_ble_eq_true rfl) (L := [some (.ref pl), some (.int (iI p)), some (.int (iI k)), some (.int (iI t))]) rfl ?_
  refine k_iload_n (pc1 := 1) dX5_isFree_0 rfl rfl ?_
  by_cases hq1 : 0 ≤ p ∧ p ≤ 5
  · skip
    refine k_callS dX5_isFree_1 rfl rfl lk_RX5_58 o_X5_requirePerson (as := [.int (iI p)]) rfl rfl (w_rpY hl (by omega) hq1) (by decide) (by decide) (by decide) (by decide) (k8 rfl) (fun v h9 hv => ?_) (fun E h9 z => z.elim)
    obtain ⟨hv1, hv2⟩ := hv
    subst hv1
    rw [hv2]
    refine k_st (st' := []) rfl ?_
    refine k_iload_n (pc1 := 5) dX5_isFree_4 rfl rfl ?_
    refine k_iload_n (pc1 := 6) dX5_isFree_5 rfl rfl ?_
    refine k_iconst (pc1 := 7) dX5_isFree_6 rfl ?_
    by_cases hq7 : 0 ≤ k ∧ k ≤ 27 ∧ 0 ≤ t ∧ t ≤ 15 ∧ 1 ≤ (1 : Int) ∧ (1 : Int) ≤ 6 ∧ t + (1 : Int) ≤ 16
    · skip
      refine k_callS dX5_isFree_7 rfl rfl lk_RX5_62 o_X5_requireSlot (as := [.int (iI k), .int (iI t), .int (iI 1)]) rfl rfl (w_rsY hl (by omega) (by omega) (by decide) hq7) (by decide) (by decide) (by decide) (by decide) (k8 rfl) (fun v h9 hv => ?_) (fun E h9 z => z.elim)
      obtain ⟨hv1, hv2⟩ := hv
      subst hv1
      rw [hv2]
      refine k_st (st' := []) rfl ?_
      refine k_aload_n (pc1 := 11) dX5_isFree_10 rfl rfl ?_
      refine k_iload_n (pc1 := 12) dX5_isFree_11 rfl rfl ?_
      refine k_iload_n (pc1 := 13) dX5_isFree_12 rfl rfl ?_
      refine k_iload_n (pc1 := 14) dX5_isFree_13 rfl rfl ?_
      by_cases hfr14 : frF f p k t
      · skip
        refine k_callVP dX5_isFree_14 rfl lk_RX5_212 o_X5_dateOfPersonAt (w_dpN hl hC (p := p) (k := k) (t := t) ⟨by omega, by omega⟩ ⟨by omega, by omega⟩ ⟨by omega, by omega⟩ hfr14) (as := [.int (iI p), .int (iI k), .int (iI t)]) (rp_P hC) rfl rfl rfl rfl (by decide) (by decide) (k8 rfl) ?_
        refine k_ifnonnullN (pc1 := 20) dX5_isFree_17 rfl ?_
        refine k_iconst (pc1 := 21) dX5_isFree_20 rfl ?_
        refine k_goto dX5_isFree_21 (tgt := 25) rfl ?_
        exact k_iret dX5_isFree_25 rfl rfl (kOy_mk (v := 1) (f' := f) (by first | exact kI_f (by omega) | (rw [TisFree, kI_t (by omega)]; first | rw [kB_t (by assumption)] | rw [kB_f (by assumption)])) (kSt_rf hC))
      · skip
        refine k_callV dX5_isFree_14 rfl lk_RX5_212 o_X5_dateOfPersonAt (as := [.int (iI p), .int (iI k), .int (iI t)]) rfl rfl (rp_P hC) rfl rfl (w_dpY hl hC (p := p) (k := k) (t := t) ⟨by omega, by omega⟩ ⟨by omega, by omega⟩ ⟨by omega, by omega⟩ hfr14) (by decide) (by decide) (Nat.zero_le _) (Nat.zero_le _) (k8 rfl) (fun v h9 hv => ?_) (fun E h9 z => z.elim)
        obtain ⟨⟨m, dd, hi, hma, hv1⟩, hv2⟩ := hv
        subst hv1
        rw [hv2]
        refine k_st (st' := [.ref (gDt γ (oF f m 0) dd)]) rfl ?_
        have hmm := kWf_m hC.2.2 hi.1 hi.2.1
        have hmd := kWf_d hC.2.2 hi.1 hi.2.1 hi.2.2.1 hi.2.2.2
        refine k_ifnonnull dX5_isFree_17 (tgt := 24) rfl ?_
        refine k_iconst (pc1 := 25) dX5_isFree_24 rfl ?_
        exact k_iret dX5_isFree_25 rfl rfl (kOy_mk (v := 0) (f' := f) (by first | exact kI_f (by omega) | (rw [TisFree, kI_t (by omega)]; first | rw [kB_t (by assumption)] | rw [kB_f (by assumption)])) (kSt_rf hC))
    · skip
      refine k_callS dX5_isFree_7 rfl rfl lk_RX5_62 o_X5_requireSlot (as := [.int (iI k), .int (iI t), .int (iI 1)]) rfl rfl (w_rsN hl (by omega) (by omega) (by decide) hq7) (by decide) (by decide) (by decide) (by decide) (k8 rfl) (fun v h9 z => z.elim) (fun E h9 z => kx_out rfl ?_)
      obtain ⟨hv1, hv2⟩ := z
      subst hv1
      rw [hv2]
      exact (kOn_mk (c := 1) (v := 0) (f' := f) (by first | exact kI_f (by omega) | (rw [TisFree, kI_t (by omega)]; first | rw [kB_t (by assumption)] | rw [kB_f (by assumption)])) (by decide) rfl (kSt_rf hC))
  · skip
    refine k_callS dX5_isFree_1 rfl rfl lk_RX5_58 o_X5_requirePerson (as := [.int (iI p)]) rfl rfl (w_rpN hl (by omega) hq1) (by decide) (by decide) (by decide) (by decide) (k8 rfl) (fun v h9 z => z.elim) (fun E h9 z => kx_out rfl ?_)
    obtain ⟨hv1, hv2⟩ := z
    subst hv1
    rw [hv2]
    exact (kOn_mk (c := 1) (v := 0) (f' := f) (by first | exact kI_f (by omega) | (rw [TisFree, kI_t (by omega)]; first | rw [kB_t (by assumption)] | rw [kB_f (by assumption)])) (by decide) rfl (kSt_rf hC))
theorem rp_mw {f : Nat → Int} (hW : kWf f) {p k t m d : Int} (hp : 0 ≤ p ∧ p < 6) (hi : inP f m d) (hm : maP f p k t m d) : mwF f p k t = m := by
  unfold mwF
  rcases kls_spec (fun m => ∃ d : Int, inP f m d ∧ maP f p k t m d) (f 1).toNat with ⟨-, g2⟩ | ⟨i, g1, -, ⟨d2, g3, g4⟩, -⟩
  · obtain ⟨j, rfl⟩ := Int.eq_ofNat_of_zero_le hi.1
    exact absurd ⟨d, hi, hm⟩ (g2 j (by have := hi.2.1; omega))
  · rw [g1]
    exact (wf_one hW hp hi g3 hm.2.1.1 g4.2.1.1 (hm.2.1.2.1.trans g4.2.1.2.1.symm) (maP_t hW hi hm) (maP_t hW g3 g4) hm.1 g4.1).1.symm
theorem w_X5_meetingOf {l : Launch} {G : kG} {h : kAH} (hl : l.stackTraces = false) {pl : Nat} {γ : kGh} {A : kAb} {f : Nat → Int} (hC : kRp G h pl γ A f) {p k t : Int} (rp : -2147483648 ≤ p ∧ p < 2147483648) (rk : -2147483648 ≤ k ∧ k < 2147483648) (rt : -2147483648 ≤ t ∧ t < 2147483648) : kC l G m_X5_meetingOf 5 1 6 [.ref pl, .int (iI p), .int (iI k), .int (iI t)] h (kOy G pl γ h (TmeetingOf f p k t)) (kOn G pl γ h (TmeetingOf f p k t) ["", "java/lang/IllegalArgumentException", "java/util/NoSuchElementException"]) := by
  have h8 := kWf_cnt hC.2.2
  refine kC_of hl rfl rfl (Nat.le_of_ble_eq_true rfl) (L := [some (.ref pl), some (.int (iI p)), some (.int (iI k)), some (.int (iI t)), none]) rfl ?_
  refine k_iload_n (pc1 := 1) dX5_meetingOf_0 rfl rfl ?_
  by_cases hq1 : 0 ≤ p ∧ p ≤ 5
  · skip
    refine k_callS dX5_meetingOf_1 rfl rfl lk_RX5_58 o_X5_requirePerson (as := [.int (iI p)]) rfl rfl (w_rpY hl (by omega) hq1) (by decide) (by decide) (by decide) (by decide) (k8 rfl) (fun v h9 hv => ?_) (fun E h9 z => z.elim)
    obtain ⟨hv1, hv2⟩ := hv
    subst hv1
    rw [hv2]
    refine k_st (st' := []) rfl ?_
    refine k_iload_n (pc1 := 5) dX5_meetingOf_4 rfl rfl ?_
    refine k_iload_n (pc1 := 6) dX5_meetingOf_5 rfl rfl ?_
    refine k_iconst (pc1 := 7) dX5_meetingOf_6 rfl ?_
    by_cases hq7 : 0 ≤ k ∧ k ≤ 27 ∧ 0 ≤ t ∧ t ≤ 15 ∧ 1 ≤ (1 : Int) ∧ (1 : Int) ≤ 6 ∧ t + (1 : Int) ≤ 16
    · skip
      refine k_callS dX5_meetingOf_7 rfl rfl lk_RX5_62 o_X5_requireSlot (as := [.int (iI k), .int (iI t), .int (iI 1)]) rfl rfl (w_rsY hl (by omega) (by omega) (by decide) hq7) (by decide) (by decide) (by decide) (by decide) (k8 rfl) (fun v h9 hv => ?_) (fun E h9 z => z.elim)
      obtain ⟨hv1, hv2⟩ := hv
      subst hv1
      rw [hv2]
      refine k_st (st' := []) rfl ?_
      refine k_aload_n (pc1 := 11) dX5_meetingOf_10 rfl rfl ?_
      refine k_iload_n (pc1 := 12) dX5_meetingOf_11 rfl rfl ?_
      refine k_iload_n (pc1 := 13) dX5_meetingOf_12 rfl rfl ?_
      refine k_iload_n (pc1 := 14) dX5_meetingOf_13 rfl rfl ?_
      by_cases hfr14 : frF f p k t
      · skip
        refine k_callVP dX5_meetingOf_14 rfl lk_RX5_212 o_X5_dateOfPersonAt (w_dpN hl hC (p := p) (k := k) (t := t) ⟨by omega, by omega⟩ ⟨by omega, by omega⟩ ⟨by omega, by omega⟩ hfr14) (as := [.int (iI p), .int (iI k), .int (iI t)]) (rp_P hC) rfl rfl rfl rfl (by decide) (by decide) (k8 rfl) ?_
        refine k_astoreN (pc1 := 19) dX5_meetingOf_17 rfl (by decide) (k_loc (L' := [some (.ref pl), some (.int (iI p)), some (.int (iI k)), some (.int (iI t)), some (.null)]) rfl ?_)
        refine k_aloadN (pc1 := 21) dX5_meetingOf_19 rfl rfl ?_
        refine k_ifnonnullN (pc1 := 24) dX5_meetingOf_21 rfl ?_
        exact k_throwX 27 28 30 33 rfl nse_0 nse_1 nse_2 nse_5 rfl dX5_meetingOf_24 dX5_meetingOf_27 dX5_meetingOf_28 dX5_meetingOf_30 dX5_meetingOf_33 rfl rfl rfl rfl rfl (by decide) (by decide) cl_RX5_198 ini_NoSuchElementException (text := "the person is free") (by decide +kernel) ax_RX5_202 (k8 rfl) (by decide) (by decide) (kOn_mk (c := 2) (v := 0) (f' := f) (by first | exact kI_f (by omega) | exact (kI_t (by omega)).trans (kI_t (by assumption)) | (rw [TmeetingOf, kI_t (by omega), kI_f (by assumption), rp_mw hC.2.2 ⟨by omega, by omega⟩ hi hma])) (by decide) rfl (kSt_rf hC))
      · skip
        refine k_callV dX5_meetingOf_14 rfl lk_RX5_212 o_X5_dateOfPersonAt (as := [.int (iI p), .int (iI k), .int (iI t)]) rfl rfl (rp_P hC) rfl rfl (w_dpY hl hC (p := p) (k := k) (t := t) ⟨by omega, by omega⟩ ⟨by omega, by omega⟩ ⟨by omega, by omega⟩ hfr14) (by decide) (by decide) (Nat.zero_le _) (Nat.zero_le _) (k8 rfl) (fun v h9 hv => ?_) (fun E h9 z => z.elim)
        obtain ⟨⟨m, dd, hi, hma, hv1⟩, hv2⟩ := hv
        subst hv1
        rw [hv2]
        refine k_st (st' := [.ref (gDt γ (oF f m 0) dd)]) rfl ?_
        have hmm := kWf_m hC.2.2 hi.1 hi.2.1
        have hmd := kWf_d hC.2.2 hi.1 hi.2.1 hi.2.2.1 hi.2.2.2
        refine k_astore (pc1 := 19) dX5_meetingOf_17 rfl (by decide) (k_loc (L' := [some (.ref pl), some (.int (iI p)), some (.int (iI k)), some (.int (iI t)), some (.ref (gDt γ (oF f m 0) dd))]) rfl ?_)
        refine k_aload (pc1 := 21) dX5_meetingOf_19 rfl rfl ?_
        refine k_ifnonnull dX5_meetingOf_21 (tgt := 34) rfl ?_
        refine k_aload (pc1 := 36) dX5_meetingOf_34 rfl rfl ?_
        refine k_get (pc1 := 39) dX5_meetingOf_36 rfl fd_RX5_218 (rp_D hC hi) (v := .ref (gMt γ (oF f m 0))) rfl ?_
        refine k_get (pc1 := 42) dX5_meetingOf_39 rfl fd_RX5_94 (rp_M hC hi.1 hi.2.1) (v := .int (iI (oF f m 0))) rfl ?_
        exact k_iret dX5_meetingOf_42 rfl rfl (kOy_mk (v := (oF f m 0)) (f' := f) (by first | exact kI_f (by omega) | exact (kI_t (by omega)).trans (kI_t (by assumption)) | (rw [TmeetingOf, kI_t (by omega), kI_f (by assumption), rp_mw hC.2.2 ⟨by omega, by omega⟩ hi hma])) (kSt_rf hC))
    · skip
      refine k_callS dX5_meetingOf_7 rfl rfl lk_RX5_62 o_X5_requireSlot (as := [.int (iI k), .int (iI t), .int (iI 1)]) rfl rfl (w_rsN hl (by omega) (by omega) (by decide) hq7) (by decide) (by decide) (by decide) (by decide) (k8 rfl) (fun v h9 z => z.elim) (fun E h9 z => kx_out rfl ?_)
      obtain ⟨hv1, hv2⟩ := z
      subst hv1
      rw [hv2]
      exact (kOn_mk (c := 1) (v := 0) (f' := f) (by first | exact kI_f (by omega) | exact (kI_t (by omega)).trans (kI_t (by assumption)) | (rw [TmeetingOf, kI_t (by omega), kI_f (by assumption), rp_mw hC.2.2 ⟨by omega, by omega⟩ hi hma])) (by decide) rfl (kSt_rf hC))
  · skip
    refine k_callS dX5_meetingOf_1 rfl rfl lk_RX5_58 o_X5_requirePerson (as := [.int (iI p)]) rfl rfl (w_rpN hl (by omega) hq1) (by decide) (by decide) (by decide) (by decide) (k8 rfl) (fun v h9 z => z.elim) (fun E h9 z => kx_out rfl ?_)
    obtain ⟨hv1, hv2⟩ := z
    subst hv1
    rw [hv2]
    exact (kOn_mk (c := 1) (v := 0) (f' := f) (by first | exact kI_f (by omega) | exact (kI_t (by omega)).trans (kI_t (by assumption)) | (rw [TmeetingOf, kI_t (by omega), kI_f (by assumption), rp_mw hC.2.2 ⟨by omega, by omega⟩ hi hma])) (by decide) rfl (kSt_rf hC))
theorem w_X5_freeTimes {l : Launch} {G : kG} {h : kAH} (hl : l.stackTraces = false) {pl : Nat} {γ : kGh} {A : kAb} {f : Nat → Int} (hC : kRp G h pl γ A f) {p k : Int} (rp : -2147483648 ≤ p ∧ p < 2147483648) (rk : -2147483648 ≤ k ∧ k < 2147483648) : kC l G m_X5_freeTimes 5 1 6 [.ref pl, .int (iI p), .int (iI k)] h (kOy G pl γ h (Tfrees f p k)) (kOn G pl γ h (Tfrees f p k) ["", "java/lang/IllegalArgumentException"]) := by
  have h8 := kWf_cnt hC.2.2
  refine kC_of hl rfl rfl (Nat.le_of_ble_eq_true rfl) (L := [some (.ref pl), some (.int (iI p)), some (.int (iI k))]) rfl ?_
  refine k_iload_n (pc1 := 1) dX5_freeTimes_0 rfl rfl ?_
  by_cases hq1 : 0 ≤ p ∧ p ≤ 5
  · skip
    refine k_callS dX5_freeTimes_1 rfl rfl lk_RX5_58 o_X5_requirePerson (as := [.int (iI p)]) rfl rfl (w_rpY hl (by omega) hq1) (by decide) (by decide) (by decide) (by decide) (k8 rfl) (fun v h9 hv => ?_) (fun E h9 z => z.elim)
    obtain ⟨hv1, hv2⟩ := hv
    subst hv1
    rw [hv2]
    refine k_st (st' := []) rfl ?_
    refine k_iload_n (pc1 := 5) dX5_freeTimes_4 rfl rfl ?_
    by_cases hq5 : 0 ≤ k ∧ k ≤ 27
    · skip
      refine k_callS dX5_freeTimes_5 rfl rfl lk_RX5_117 o_X5_requireDay (as := [.int (iI k)]) rfl rfl (w_rdY hl (by omega) hq5) (by decide) (by decide) (by decide) (by decide) (k8 rfl) (fun v h9 hv => ?_) (fun E h9 z => z.elim)
      obtain ⟨hv1, hv2⟩ := hv
      subst hv1
      rw [hv2]
      refine k_st (st' := []) rfl ?_
      refine k_aload_n (pc1 := 9) dX5_freeTimes_8 rfl rfl ?_
      refine k_iload_n (pc1 := 10) dX5_freeTimes_9 rfl rfl ?_
      refine k_iload_n (pc1 := 11) dX5_freeTimes_10 rfl rfl ?_
      refine k_callVP dX5_freeTimes_11 rfl lk_RX5_222 o_X5_countFreeBySweep (w_cswp hl hC (p := p) (k := k) ⟨by omega, by omega⟩ ⟨by omega, by omega⟩) (as := [.int (iI p), .int (iI k)]) (rp_P hC) rfl rfl rfl rfl (by decide) (by decide) (k8 rfl) ?_
      exact k_iret dX5_freeTimes_14 rfl rfl (kOy_mk (v := (ksm (fun t => kB (frF f p k (t : Int))) 16)) (f' := f) (by first | exact kI_t (by first | omega | assumption) | exact kI_f (by first | omega | assumption)) (kSt_rf hC))
    · skip
      refine k_callS dX5_freeTimes_5 rfl rfl lk_RX5_117 o_X5_requireDay (as := [.int (iI k)]) rfl rfl (w_rdN hl (by omega) hq5) (by decide) (by decide) (by decide) (by decide) (k8 rfl) (fun v h9 z => z.elim) (fun E h9 z => kx_out rfl ?_)
      obtain ⟨hv1, hv2⟩ := z
      subst hv1
      rw [hv2]
      exact (kOn_mk (c := 1) (v := 0) (f' := f) (by first | exact kI_t (by first | omega | assumption) | exact kI_f (by first | omega | assumption)) (by decide) rfl (kSt_rf hC))
  · skip
    refine k_callS dX5_freeTimes_1 rfl rfl lk_RX5_58 o_X5_requirePerson (as := [.int (iI p)]) rfl rfl (w_rpN hl (by omega) hq1) (by decide) (by decide) (by decide) (by decide) (k8 rfl) (fun v h9 z => z.elim) (fun E h9 z => kx_out rfl ?_)
    obtain ⟨hv1, hv2⟩ := z
    subst hv1
    rw [hv2]
    exact (kOn_mk (c := 1) (v := 0) (f' := f) (by first | exact kI_t (by first | omega | assumption) | exact kI_f (by first | omega | assumption)) (by decide) rfl (kSt_rf hC))
theorem w_X5_freeByTrying {l : Launch} {G : kG} {h : kAH} (hl : l.stackTraces = false) {pl : Nat} {γ : kGh} {A : kAb} {f : Nat → Int} (hC : kRp G h pl γ A f) {p k : Int} (rp : -2147483648 ≤ p ∧ p < 2147483648) (rk : -2147483648 ≤ k ∧ k < 2147483648) : kC l G m_X5_freeByTrying 6 1 6 [.ref pl, .int (iI p), .int (iI k)] h (kOy G pl γ h (Tfrees f p k)) (kOn G pl γ h (Tfrees f p k) ["", "java/lang/IllegalArgumentException"]) := by
  have h8 := kWf_cnt hC.2.2
  refine kC_of hl rfl rfl (Nat.le_of_ble_eq_true rfl) (L := [some (.ref pl), some (.int (iI p)), some (.int (iI k))]) rfl ?_
  refine k_iload_n (pc1 := 1) dX5_freeByTrying_0 rfl rfl ?_
  by_cases hq1 : 0 ≤ p ∧ p ≤ 5
  · skip
    refine k_callS dX5_freeByTrying_1 rfl rfl lk_RX5_58 o_X5_requirePerson (as := [.int (iI p)]) rfl rfl (w_rpY hl (by omega) hq1) (by decide) (by decide) (by decide) (by decide) (k8 rfl) (fun v h9 hv => ?_) (fun E h9 z => z.elim)
    obtain ⟨hv1, hv2⟩ := hv
    subst hv1
    rw [hv2]
    refine k_st (st' := []) rfl ?_
    refine k_iload_n (pc1 := 5) dX5_freeByTrying_4 rfl rfl ?_
    by_cases hq5 : 0 ≤ k ∧ k ≤ 27
    · skip
      refine k_callS dX5_freeByTrying_5 rfl rfl lk_RX5_117 o_X5_requireDay (as := [.int (iI k)]) rfl rfl (w_rdY hl (by omega) hq5) (by decide) (by decide) (by decide) (by decide) (k8 rfl) (fun v h9 hv => ?_) (fun E h9 z => z.elim)
      obtain ⟨hv1, hv2⟩ := hv
      subst hv1
      rw [hv2]
      refine k_st (st' := []) rfl ?_
      refine k_aload_n (pc1 := 9) dX5_freeByTrying_8 rfl rfl ?_
      refine k_iload_n (pc1 := 10) dX5_freeByTrying_9 rfl rfl ?_
      refine k_iload_n (pc1 := 11) dX5_freeByTrying_10 rfl rfl ?_
      refine k_callVP dX5_freeByTrying_11 rfl lk_RX5_226 o_X5_countFreeByTrying (w_ctry hl hC (p := p) (k := k) ⟨by omega, by omega⟩ ⟨by omega, by omega⟩) (as := [.int (iI p), .int (iI k)]) (rp_P hC) rfl rfl rfl rfl (by decide) (by decide) (k8 rfl) ?_
      exact k_iret dX5_freeByTrying_14 rfl rfl (kOy_mk (v := (ksm (fun t => kB (frF f p k (t : Int))) 16)) (f' := f) (by first | exact kI_t (by first | omega | assumption) | exact kI_f (by first | omega | assumption)) (kSt_rf hC))
    · skip
      refine k_callS dX5_freeByTrying_5 rfl rfl lk_RX5_117 o_X5_requireDay (as := [.int (iI k)]) rfl rfl (w_rdN hl (by omega) hq5) (by decide) (by decide) (by decide) (by decide) (k8 rfl) (fun v h9 z => z.elim) (fun E h9 z => kx_out rfl ?_)
      obtain ⟨hv1, hv2⟩ := z
      subst hv1
      rw [hv2]
      exact (kOn_mk (c := 1) (v := 0) (f' := f) (by first | exact kI_t (by first | omega | assumption) | exact kI_f (by first | omega | assumption)) (by decide) rfl (kSt_rf hC))
  · skip
    refine k_callS dX5_freeByTrying_1 rfl rfl lk_RX5_58 o_X5_requirePerson (as := [.int (iI p)]) rfl rfl (w_rpN hl (by omega) hq1) (by decide) (by decide) (by decide) (by decide) (k8 rfl) (fun v h9 z => z.elim) (fun E h9 z => kx_out rfl ?_)
    obtain ⟨hv1, hv2⟩ := z
    subst hv1
    rw [hv2]
    exact (kOn_mk (c := 1) (v := 0) (f' := f) (by first | exact kI_t (by first | omega | assumption) | exact kI_f (by first | omega | assumption)) (by decide) rfl (kSt_rf hC))
theorem w_X5_longestFree {l : Launch} {G : kG} {h : kAH} (hl : l.stackTraces = false) {pl : Nat} {γ : kGh} {A : kAb} {f : Nat → Int} (hC : kRp G h pl γ A f) {p k : Int} (rp : -2147483648 ≤ p ∧ p < 2147483648) (rk : -2147483648 ≤ k ∧ k < 2147483648) : kC l G m_X5_longestFree 5 1 6 [.ref pl, .int (iI p), .int (iI k)] h (kOy G pl γ h (TlongestFree f p k)) (kOn G pl γ h (TlongestFree f p k) ["", "java/lang/IllegalArgumentException"]) := by
  have h8 := kWf_cnt hC.2.2
  refine kC_of hl rfl rfl (Nat.le_of_ble_eq_true rfl) (L := [some (.ref pl), some (.int (iI p)), some (.int (iI k)), none, none, none]) rfl ?_
  refine k_iload_n (pc1 := 1) dX5_longestFree_0 rfl rfl ?_
  by_cases hq1 : 0 ≤ p ∧ p ≤ 5
  · skip
    refine k_callS dX5_longestFree_1 rfl rfl lk_RX5_58 o_X5_requirePerson (as := [.int (iI p)]) rfl rfl (w_rpY hl (by omega) hq1) (by decide) (by decide) (by decide) (by decide) (k8 rfl) (fun v h9 hv => ?_) (fun E h9 z => z.elim)
    obtain ⟨hv1, hv2⟩ := hv
    subst hv1
    rw [hv2]
    refine k_st (st' := []) rfl ?_
    refine k_iload_n (pc1 := 5) dX5_longestFree_4 rfl rfl ?_
    by_cases hq5 : 0 ≤ k ∧ k ≤ 27
    · skip
      refine k_callS dX5_longestFree_5 rfl rfl lk_RX5_117 o_X5_requireDay (as := [.int (iI k)]) rfl rfl (w_rdY hl (by omega) hq5) (by decide) (by decide) (by decide) (by decide) (k8 rfl) (fun v h9 hv => ?_) (fun E h9 z => z.elim)
      obtain ⟨hv1, hv2⟩ := hv
      subst hv1
      rw [hv2]
      refine k_st (st' := []) rfl ?_
      refine k_iconst (pc1 := 9) dX5_longestFree_8 rfl ?_
      refine k_istore_n (pc1 := 10) dX5_longestFree_9 rfl (by decide) (k_loc (L' := [some (.ref pl), some (.int (iI p)), some (.int (iI k)), some (.int (iI 0)), none, none]) rfl ?_)
      refine k_iconst (pc1 := 11) dX5_longestFree_10 rfl ?_
      refine k_istore (pc1 := 13) dX5_longestFree_11 rfl (by decide) (k_loc (L' := [some (.ref pl), some (.int (iI p)), some (.int (iI k)), some (.int (iI 0)), some (.int (iI 0)), none]) rfl ?_)
      refine k_iconst (pc1 := 14) dX5_longestFree_13 rfl ?_
      refine k_istore (pc1 := 16) dX5_longestFree_14 rfl (by decide) (k_loc (L' := [some (.ref pl), some (.int (iI p)), some (.int (iI k)), some (.int (iI 0)), some (.int (iI 0)), some (.int (iI 0))]) rfl ?_)
      have hloop16 : ∀ (zz : Nat) (i : Nat), zz = 16 - i → (i ≤ 16) → kW l G m_X5_longestFree 5 (kOy G pl γ h (TlongestFree f p k)) (kOn G pl γ h (TlongestFree f p k) ["", "java/lang/IllegalArgumentException"]) 1 6 16 [some (.ref pl), some (.int (iI p)), some (.int (iI k)), some (.int (iI (lgB (fun t => frF f p k (t : Int)) i))), some (.int (iI (lgN (fun t => frF f p k (t : Int)) i))), some (.int (iI ((i : Nat) : Int)))] [] h := by
        intro zz
        induction zz using Nat.strongRecOn with
        | ind zz ih16 =>
        intro i hr16 hi9
        refine k_iload (pc1 := 18) dX5_longestFree_16 rfl rfl ?_
        refine k_bipush 16 (pc1 := 20) dX5_longestFree_18 rfl (by decide) ?_
        refine k_icmp_ge (a := ((i : Nat) : Int)) (b := 16) dX5_longestFree_20 rfl (tgt := 57) rfl (by omega) (by decide) (fun c20 : 16 ≤ ((i : Nat) : Int) => ?_) (fun c20 : ((i : Nat) : Int) < 16 => ?_)
        · skip
          refine k_iload_n (pc1 := 58) dX5_longestFree_57 rfl rfl ?_
          exact k_iret dX5_longestFree_58 rfl rfl (kOy_mk (v := (lgB (fun t => frF f p k (t : Int)) i)) (f' := f) (by have e : i = 16 := (by omega); subst e; exact kI_t (by omega)) (kSt_rf hC))
        · skip
          refine k_aload_n (pc1 := 24) dX5_longestFree_23 rfl rfl ?_
          refine k_iload_n (pc1 := 25) dX5_longestFree_24 rfl rfl ?_
          refine k_iload_n (pc1 := 26) dX5_longestFree_25 rfl rfl ?_
          refine k_iload (pc1 := 28) dX5_longestFree_26 rfl rfl ?_
          by_cases hfr28 : frF f p k ((i : Nat) : Int)
          · skip
            refine k_callVP dX5_longestFree_28 rfl lk_RX5_212 o_X5_dateOfPersonAt (w_dpN hl hC (p := p) (k := k) (t := ((i : Nat) : Int)) ⟨by omega, by omega⟩ ⟨by omega, by omega⟩ ⟨by omega, by omega⟩ hfr28) (as := [.int (iI p), .int (iI k), .int (iI ((i : Nat) : Int))]) (rp_P hC) rfl rfl rfl rfl (by decide) (by decide) (k8 rfl) ?_
            refine k_ifnonnullN (pc1 := 34) dX5_longestFree_31 rfl ?_
            refine k_iload (pc1 := 36) dX5_longestFree_34 rfl rfl ?_
            refine k_iconst (pc1 := 37) dX5_longestFree_36 rfl ?_
            refine k_iadd (a := (lgN (fun t => frF f p k (t : Int)) i)) (b := 1) (pc1 := 38) dX5_longestFree_37 rfl ?_
            refine k_goto dX5_longestFree_38 (tgt := 42) rfl ?_
            refine k_istore (pc1 := 44) dX5_longestFree_42 rfl (by decide) (k_loc (L' := [some (.ref pl), some (.int (iI p)), some (.int (iI k)), some (.int (iI (lgB (fun t => frF f p k (t : Int)) i))), some (.int (iI ((lgN (fun t => frF f p k (t : Int)) i) + 1))), some (.int (iI ((i : Nat) : Int)))]) rfl ?_)
            have e4 : (lgN (fun t => frF f p k (t : Int)) (i + 1)) = ((lgN (fun t => frF f p k (t : Int)) i) + 1) := kI_t hfr28
            refine k_loc (L' := [some (.ref pl), some (.int (iI p)), some (.int (iI k)), some (.int (iI (lgB (fun t => frF f p k (t : Int)) i))), some (.int (iI (lgN (fun t => frF f p k (t : Int)) (i + 1)))), some (.int (iI ((i : Nat) : Int)))]) (by rw [e4]) ?_
            have hlr := lgN_r (fun t => frF f p k (t : Int)) (i + 1)
            have hbr := lgB_r (fun t => frF f p k (t : Int)) i
            refine k_iload_n (pc1 := 45) dX5_longestFree_44 rfl rfl ?_
            refine k_iload (pc1 := 47) dX5_longestFree_45 rfl rfl ?_
            refine k_max (a := (lgB (fun t => frF f p k (t : Int)) i)) (b := (lgN (fun t => frF f p k (t : Int)) (i + 1))) dX5_longestFree_47 rfl lk_RX5_229 (by omega) (by omega) (k8 rfl) ?_
            refine k_istore_n (pc1 := 51) dX5_longestFree_50 rfl (by decide) (k_loc (L' := [some (.ref pl), some (.int (iI p)), some (.int (iI k)), some (.int (iI (kI ((lgB (fun t => frF f p k (t : Int)) i) < (lgN (fun t => frF f p k (t : Int)) (i + 1))) (lgN (fun t => frF f p k (t : Int)) (i + 1)) (lgB (fun t => frF f p k (t : Int)) i)))), some (.int (iI (lgN (fun t => frF f p k (t : Int)) (i + 1)))), some (.int (iI ((i : Nat) : Int)))]) rfl ?_)
            refine k_iinc (a := ((i : Nat) : Int)) (pc1 := 54) dX5_longestFree_51 rfl rfl (by decide) (k_loc (L' := [some (.ref pl), some (.int (iI p)), some (.int (iI k)), some (.int (iI (kI ((lgB (fun t => frF f p k (t : Int)) i) < (lgN (fun t => frF f p k (t : Int)) (i + 1))) (lgN (fun t => frF f p k (t : Int)) (i + 1)) (lgB (fun t => frF f p k (t : Int)) i)))), some (.int (iI (lgN (fun t => frF f p k (t : Int)) (i + 1)))), some (.int (iI (((i : Nat) : Int) + 1)))]) rfl ?_)
            refine k_goto dX5_longestFree_54 (tgt := 16) rfl ?_
            refine k_loc (L' := [some (.ref pl), some (.int (iI p)), some (.int (iI k)), some (.int (iI (lgB (fun t => frF f p k (t : Int)) (i + 1)))), some (.int (iI (lgN (fun t => frF f p k (t : Int)) (i + 1)))), some (.int (iI (((i : Nat) : Int) + 1)))]) rfl ?_
            exact ih16 _ (by omega) (i + 1) rfl (by omega)
          · skip
            refine k_callV dX5_longestFree_28 rfl lk_RX5_212 o_X5_dateOfPersonAt (as := [.int (iI p), .int (iI k), .int (iI ((i : Nat) : Int))]) rfl rfl (rp_P hC) rfl rfl (w_dpY hl hC (p := p) (k := k) (t := ((i : Nat) : Int)) ⟨by omega, by omega⟩ ⟨by omega, by omega⟩ ⟨by omega, by omega⟩ hfr28) (by decide) (by decide) (Nat.zero_le _) (Nat.zero_le _) (k8 rfl) (fun v h9 hv => ?_) (fun E h9 z => z.elim)
            obtain ⟨⟨m, dd, hi, hma, hv1⟩, hv2⟩ := hv
            subst hv1
            rw [hv2]
            refine k_st (st' := [.ref (gDt γ (oF f m 0) dd)]) rfl ?_
            have hmm := kWf_m hC.2.2 hi.1 hi.2.1
            have hmd := kWf_d hC.2.2 hi.1 hi.2.1 hi.2.2.1 hi.2.2.2
            refine k_ifnonnull dX5_longestFree_31 (tgt := 41) rfl ?_
            refine k_iconst (pc1 := 42) dX5_longestFree_41 rfl ?_
            refine k_istore (pc1 := 44) dX5_longestFree_42 rfl (by decide) (k_loc (L' := [some (.ref pl), some (.int (iI p)), some (.int (iI k)), some (.int (iI (lgB (fun t => frF f p k (t : Int)) i))), some (.int (iI 0)), some (.int (iI ((i : Nat) : Int)))]) rfl ?_)
            have e4 : (lgN (fun t => frF f p k (t : Int)) (i + 1)) = 0 := kI_f hfr28
            refine k_loc (L' := [some (.ref pl), some (.int (iI p)), some (.int (iI k)), some (.int (iI (lgB (fun t => frF f p k (t : Int)) i))), some (.int (iI (lgN (fun t => frF f p k (t : Int)) (i + 1)))), some (.int (iI ((i : Nat) : Int)))]) (by rw [e4]) ?_
            have hlr := lgN_r (fun t => frF f p k (t : Int)) (i + 1)
            have hbr := lgB_r (fun t => frF f p k (t : Int)) i
            refine k_iload_n (pc1 := 45) dX5_longestFree_44 rfl rfl ?_
            refine k_iload (pc1 := 47) dX5_longestFree_45 rfl rfl ?_
            refine k_max (a := (lgB (fun t => frF f p k (t : Int)) i)) (b := (lgN (fun t => frF f p k (t : Int)) (i + 1))) dX5_longestFree_47 rfl lk_RX5_229 (by omega) (by omega) (k8 rfl) ?_
            refine k_istore_n (pc1 := 51) dX5_longestFree_50 rfl (by decide) (k_loc (L' := [some (.ref pl), some (.int (iI p)), some (.int (iI k)), some (.int (iI (kI ((lgB (fun t => frF f p k (t : Int)) i) < (lgN (fun t => frF f p k (t : Int)) (i + 1))) (lgN (fun t => frF f p k (t : Int)) (i + 1)) (lgB (fun t => frF f p k (t : Int)) i)))), some (.int (iI (lgN (fun t => frF f p k (t : Int)) (i + 1)))), some (.int (iI ((i : Nat) : Int)))]) rfl ?_)
            refine k_iinc (a := ((i : Nat) : Int)) (pc1 := 54) dX5_longestFree_51 rfl rfl (by decide) (k_loc (L' := [some (.ref pl), some (.int (iI p)), some (.int (iI k)), some (.int (iI (kI ((lgB (fun t => frF f p k (t : Int)) i) < (lgN (fun t => frF f p k (t : Int)) (i + 1))) (lgN (fun t => frF f p k (t : Int)) (i + 1)) (lgB (fun t => frF f p k (t : Int)) i)))), some (.int (iI (lgN (fun t => frF f p k (t : Int)) (i + 1)))), some (.int (iI (((i : Nat) : Int) + 1)))]) rfl ?_)
            refine k_goto dX5_longestFree_54 (tgt := 16) rfl ?_
            refine k_loc (L' := [some (.ref pl), some (.int (iI p)), some (.int (iI k)), some (.int (iI (lgB (fun t => frF f p k (t : Int)) (i + 1)))), some (.int (iI (lgN (fun t => frF f p k (t : Int)) (i + 1)))), some (.int (iI (((i : Nat) : Int) + 1)))]) rfl ?_
            exact ih16 _ (by omega) (i + 1) rfl (by omega)
      exact hloop16 _ 0 rfl (by omega)
    · skip
      refine k_callS dX5_longestFree_5 rfl rfl lk_RX5_117 o_X5_requireDay (as := [.int (iI k)]) rfl rfl (w_rdN hl (by omega) hq5) (by decide) (by decide) (by decide) (by decide) (k8 rfl) (fun v h9 z => z.elim) (fun E h9 z => kx_out rfl ?_)
      obtain ⟨hv1, hv2⟩ := z
      subst hv1
      rw [hv2]
      exact (kOn_mk (c := 1) (v := 0) (f' := f) (by first | exact kI_t (by first | omega | assumption) | exact kI_f (by first | omega | assumption)) (by decide) rfl (kSt_rf hC))
  · skip
    refine k_callS dX5_longestFree_1 rfl rfl lk_RX5_58 o_X5_requirePerson (as := [.int (iI p)]) rfl rfl (w_rpN hl (by omega) hq1) (by decide) (by decide) (by decide) (by decide) (k8 rfl) (fun v h9 z => z.elim) (fun E h9 z => kx_out rfl ?_)
    obtain ⟨hv1, hv2⟩ := z
    subst hv1
    rw [hv2]
    exact (kOn_mk (c := 1) (v := 0) (f' := f) (by first | exact kI_t (by first | omega | assumption) | exact kI_f (by first | omega | assumption)) (by decide) rfl (kSt_rf hC))
