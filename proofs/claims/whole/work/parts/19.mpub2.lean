/-! ===== the reference: its public queries with loops, walked ===== -/
theorem w_X6_answerOf {l : Launch} {G : kG} {h : kAH} {o g r : Nat} {c : Int} {f : Nat → Int} (hl : l.stackTraces = false) (hM : kMd G h o g r c (-1) (-1) f) (hW : kWf f) (n p : Int) (rn : -2147483648 ≤ n ∧ n < 2147483648) (rp : -2147483648 ≤ p ∧ p < 2147483648) : kC l G m_X6_answerOf 5 0 0 [.ref o, .int (iI n), .int (iI p)] h (kMt G o g r (TanswerOf f n p) h) kNo := by
  have hwm : -1 ≤ (-1 : Int) ∧ (-1 : Int) < 8 := by decide
  have hwd : -1 ≤ (-1 : Int) ∧ (-1 : Int) < 6 := by decide
  have h8 := kWf_cnt hW
  have h9 := kWf_nxt hW
  have hat := atF_r (n := n) h8.1
  refine kC_of hl rfl rfl (Nat.le_of_ble_eq_true rfl) (L := [some (.ref o), some (.int (iI n)), some (.int (iI p))]) rfl ?_
  refine k_aload_n (pc1 := 1) dX6_answerOf_0 rfl rfl ?_
  refine k_iload_n (pc1 := 2) dX6_answerOf_1 rfl rfl ?_
  by_cases hN0 : atF f n < 0
  · skip
    refine k_callVM (c' := 1) (wm' := (-1)) (wd' := (-1)) (f' := f) (v := .int (iI 1)) dX6_answerOf_2 rfl lk_RX6_99 o_X6_isNone hM (w_X6_isNoneT hl hM hW (by omega) hN0) (as := [.int (iI n)]) rfl rfl rfl (by decide) (by decide) (k8 rfl) (fun h59 hM59 hX59 => ?_)
    have hF59 := kFm_tr (kFm_rf o g r h) hX59
    refine k_if_ne (a := 1) dX6_answerOf_5 rfl (tgt := 27) rfl (by decide) (fun _ => ?_) (fun c => absurd c (by decide))
    refine k_bipush 32 (pc1 := 29) dX6_answerOf_27 rfl (by decide) ?_
    exact k_iret dX6_answerOf_29 rfl (kn_c (by omega) (by omega)) (kMt_mk (c1 := 1) (v1 := 32) (f1 := f) (by unfold TanswerOf; first | exact kI_t (by omega) | exact (kI_f (by omega)).trans (kI_f (by omega)) | (rw [kI_f (by omega), kI_t (by omega)]; first | rw [kI_t (by omega)] | rw [kI_f (by omega)])) hM59 hF59)
  · skip
    refine k_callVM (c' := 0) (wm' := (-1)) (wd' := (-1)) (f' := f) (v := .int (iI 0)) dX6_answerOf_2 rfl lk_RX6_99 o_X6_isNone hM (w_X6_isNoneF hl hM hW (by omega) hN0) (as := [.int (iI n)]) rfl rfl rfl (by decide) (by decide) (k8 rfl) (fun h60 hM60 hX60 => ?_)
    have hF60 := kFm_tr (kFm_rf o g r h) hX60
    refine k_if_ne (a := 0) dX6_answerOf_5 rfl (tgt := 27) rfl (by decide) (fun c => absurd c (by decide)) (fun _ => ?_)
    refine k_aload_n (pc1 := 9) dX6_answerOf_8 rfl rfl ?_
    refine k_iload_n (pc1 := 10) dX6_answerOf_9 rfl rfl ?_
    refine k_callSP dX6_answerOf_10 rfl lk_RX6_74 o_X6_isPerson (w_X6_isPerson hl p (by omega)) (as := [.int (iI p)]) rfl rfl rfl (by decide) (by decide) (k8 rfl) ?_
    refine k_if_eq (a := kB (0 ≤ p ∧ p ≤ 5)) dX6_answerOf_13 rfl (tgt := 20) rfl (kB_r _) (fun c13 : kB (0 ≤ p ∧ p ≤ 5) = 0 => ?_) (fun c13 : kB (0 ≤ p ∧ p ≤ 5) ≠ 0 => ?_)
    · replace c13 : ¬(0 ≤ p ∧ p ≤ 5) := kB_z.mp c13
      refine k_iconst (pc1 := 21) dX6_answerOf_20 rfl ?_
      refine k_callVM (c' := 2) (wm' := (-1)) (wd' := (-1)) (f' := f) (v := .int (iI 1)) dX6_answerOf_21 rfl lk_RX6_34 o_X6_fails hM60 (w_X6_failsT hl hM60 (by decide)) (as := [.int (iI 2)]) rfl rfl rfl (by decide) (by decide) (k8 rfl) (fun h61 hM61 hX61 => ?_)
      have hF61 := kFm_tr hF60 hX61
      refine k_if_eq (a := 1) dX6_answerOf_24 rfl (tgt := 30) rfl (by decide) (fun c => absurd c (by decide)) (fun _ => ?_)
      refine k_bipush 32 (pc1 := 29) dX6_answerOf_27 rfl (by decide) ?_
      exact k_iret dX6_answerOf_29 rfl (kn_c (by omega) (by omega)) (kMt_mk (c1 := 2) (v1 := 32) (f1 := f) (by unfold TanswerOf; first | exact kI_t (by omega) | exact (kI_f (by omega)).trans (kI_f (by omega)) | (rw [kI_f (by omega), kI_t (by omega)]; first | rw [kI_t (by omega)] | rw [kI_f (by omega)])) hM61 hF61)
    · replace c13 : (0 ≤ p ∧ p ≤ 5) := kB_nz.mp c13
      refine k_iconst (pc1 := 17) dX6_answerOf_16 rfl ?_
      refine k_goto dX6_answerOf_17 (tgt := 21) rfl ?_
      refine k_callVM (c' := 0) (wm' := (-1)) (wd' := (-1)) (f' := f) (v := .int (iI 0)) dX6_answerOf_21 rfl lk_RX6_34 o_X6_fails hM60 (w_X6_failsF hl hM60) (as := [.int (iI 0)]) rfl rfl rfl (by decide) (by decide) (k8 rfl) (fun h62 hM62 hX62 => ?_)
      have hF62 := kFm_tr hF60 hX62
      refine k_if_eq (a := 0) dX6_answerOf_24 rfl (tgt := 30) rfl (by decide) (fun _ => ?_) (fun c => absurd c (by decide))
      have hmm := kWf_m hW (m := atF f n) (by omega) (by omega)
      refine k_iload_n (pc1 := 31) dX6_answerOf_30 rfl rfl ?_
      refine k_aload_n (pc1 := 32) dX6_answerOf_31 rfl rfl ?_
      refine k_iload_n (pc1 := 33) dX6_answerOf_32 rfl rfl ?_
      refine k_callVM (c' := 0) (wm' := (-1)) (wd' := (-1)) (f' := f) (v := .int (iI (oF f (atF f n) 1))) dX6_answerOf_33 rfl lk_RX6_111 o_X6_hostOf hM62 (by have z := w_X6_hostOf hl hM62 hW n rn; rw [show ThostOf f n = (0, oF f (atF f n) 1, f) from kI_f hN0] at z; exact z) (as := [.int (iI n)]) rfl rfl rfl (by decide) (by decide) (k8 rfl) (fun h63 hM63 hX63 => ?_)
      have hF63 := kFm_tr hF62 hX63
      refine k_icmp_ne (a := p) (b := (oF f (atF f n) 1)) dX6_answerOf_36 rfl (tgt := 44) rfl (by omega) (by omega) (fun c36 : p ≠ (oF f (atF f n) 1) => ?_) (fun c36 : p = (oF f (atF f n) 1) => ?_)
      · skip
        refine k_aload_n (pc1 := 45) dX6_answerOf_44 rfl rfl ?_
        refine k_aload_n (pc1 := 46) dX6_answerOf_45 rfl rfl ?_
        refine k_iload_n (pc1 := 47) dX6_answerOf_46 rfl rfl ?_
        have hpp := kWf_p hW (m := atF f n) (p := p) (by omega) (by omega) (by omega) (by omega)
        refine k_callVP dX6_answerOf_47 rfl lk_RX6_96 o_X6_at (w_X6_at hl hM63 n hW (by omega)) (as := [.int (iI n)]) hM63.1 rfl rfl rfl rfl (by decide) (by decide) (k8 rfl) ?_
        refine k_iconst (pc1 := 51) dX6_answerOf_50 rfl ?_
        refine k_iload_n (pc1 := 52) dX6_answerOf_51 rfl rfl ?_
        refine k_iadd (a := 4) (b := p) (pc1 := 53) dX6_answerOf_52 rfl ?_
        refine k_callVP dX6_answerOf_53 rfl lk_RX6_37 o_X6_of (w_X6_of hl hM63 (atF f n) (4 + p) (by omega) (by omega)) (as := [.int (iI (atF f n)), .int (iI (4 + p))]) hM63.1 rfl rfl rfl rfl (by decide) (by decide) (k8 rfl) ?_
        refine k_i2c (pc1 := 57) dX6_answerOf_56 rfl (k_val (v' := .int (iI (oF f (atF f n) (4 + p)))) (congrArg Value.int (iI_i2c (by omega) (by omega))) ?_)
        exact k_iret dX6_answerOf_57 rfl (kn_c (by omega) (by omega)) (kMt_mk (c1 := 0) (v1 := (oF f (atF f n) (4 + p))) (f1 := f) (by unfold TanswerOf; first | exact kI_t (by omega) | exact (kI_f (by omega)).trans (kI_f (by omega)) | (rw [kI_f (by omega), kI_t (by omega)]; first | rw [kI_t (by omega)] | rw [kI_f (by omega)])) hM63 hF63)
      · skip
        refine k_bipush 104 (pc1 := 41) dX6_answerOf_39 rfl (by decide) ?_
        refine k_goto dX6_answerOf_41 (tgt := 57) rfl ?_
        exact k_iret dX6_answerOf_57 rfl (kn_c (by omega) (by omega)) (kMt_mk (c1 := 0) (v1 := 104) (f1 := f) (by unfold TanswerOf; first | exact kI_t (by omega) | exact (kI_f (by omega)).trans (kI_f (by omega)) | (rw [kI_f (by omega), kI_t (by omega)]; first | rw [kI_t (by omega)] | rw [kI_f (by omega)])) hM63 hF63)
theorem w_X6_isFree {l : Launch} {G : kG} {h : kAH} {o g r : Nat} {c : Int} {f : Nat → Int} (hl : l.stackTraces = false) (hM : kMd G h o g r c (-1) (-1) f) (hW : kWf f) (p k t : Int) (rp : -2147483648 ≤ p ∧ p < 2147483648) (rk : -2147483648 ≤ k ∧ k < 2147483648) (rt : -2147483648 ≤ t ∧ t < 2147483648) : kC l G m_X6_isFree 7 0 0 [.ref o, .int (iI p), .int (iI k), .int (iI t)] h (kMt G o g r (TisFree f p k t) h) kNo := by
  have hwm : -1 ≤ (-1 : Int) ∧ (-1 : Int) < 8 := by decide
  have hwd : -1 ≤ (-1 : Int) ∧ (-1 : Int) < 6 := by decide
  have h8 := kWf_cnt hW
  have h9 := kWf_nxt hW
  refine kC_of hl rfl rfl (Nat.le_of_ble_eq_true rfl) (L := [some (.ref o), some (.int (iI p)), some (.int (iI k)), some (.int (iI t))]) rfl ?_
  refine k_aload_n (pc1 := 1) dX6_isFree_0 rfl rfl ?_
  refine k_iload_n (pc1 := 2) dX6_isFree_1 rfl rfl ?_
  refine k_iload_n (pc1 := 3) dX6_isFree_2 rfl rfl ?_
  refine k_iload_n (pc1 := 4) dX6_isFree_3 rfl rfl ?_
  refine k_callSP dX6_isFree_4 rfl lk_RX6_114 o_X6_isNoTime (w_X6_isNoTime hl p k t (by omega) (by omega) (by omega)) (as := [.int (iI p), .int (iI k), .int (iI t)]) rfl rfl rfl (by decide) (by decide) (k8 rfl) ?_
  refine k_if_eq (a := kB (¬(0 ≤ p ∧ p ≤ 5) ∨ ¬(0 ≤ k ∧ k ≤ 27) ∨ ¬(0 ≤ t ∧ t ≤ 15))) dX6_isFree_7 rfl (tgt := 14) rfl (kB_r _) (fun c7 : kB (¬(0 ≤ p ∧ p ≤ 5) ∨ ¬(0 ≤ k ∧ k ≤ 27) ∨ ¬(0 ≤ t ∧ t ≤ 15)) = 0 => ?_) (fun c7 : kB (¬(0 ≤ p ∧ p ≤ 5) ∨ ¬(0 ≤ k ∧ k ≤ 27) ∨ ¬(0 ≤ t ∧ t ≤ 15)) ≠ 0 => ?_)
  · replace c7 : ¬(¬(0 ≤ p ∧ p ≤ 5) ∨ ¬(0 ≤ k ∧ k ≤ 27) ∨ ¬(0 ≤ t ∧ t ≤ 15)) := kB_z.mp c7
    refine k_iconst (pc1 := 15) dX6_isFree_14 rfl ?_
    refine k_callVM (c' := 0) (wm' := (-1)) (wd' := (-1)) (f' := f) (v := .int (iI 0)) dX6_isFree_15 rfl lk_RX6_34 o_X6_fails hM (w_X6_failsF hl hM) (as := [.int (iI 0)]) rfl rfl rfl (by decide) (by decide) (k8 rfl) (fun h64 hM64 hX64 => ?_)
    have hF64 := kFm_tr (kFm_rf o g r h) hX64
    refine k_if_ne (a := 0) dX6_isFree_18 rfl (tgt := 35) rfl (by decide) (fun c => absurd c (by decide)) (fun _ => ?_)
    refine k_aload_n (pc1 := 22) dX6_isFree_21 rfl rfl ?_
    refine k_iload_n (pc1 := 23) dX6_isFree_22 rfl rfl ?_
    refine k_iload_n (pc1 := 24) dX6_isFree_23 rfl rfl ?_
    refine k_iload_n (pc1 := 25) dX6_isFree_24 rfl rfl ?_
    refine k_callVP dX6_isFree_25 rfl lk_RX6_117 o_X6_isFreeAt (w_X6_isFreeAt hl hM64 p k t hW ⟨by omega, by omega⟩ ⟨by omega, by omega⟩ ⟨by omega, by omega⟩ ) (as := [.int (iI p), .int (iI k), .int (iI t)]) hM64.1 rfl rfl rfl rfl (by decide) (by decide) (k8 rfl) ?_
    refine k_if_eq (a := kB (frF f p k t)) dX6_isFree_28 rfl (tgt := 35) rfl (kB_r _) (fun c28 : kB (frF f p k t) = 0 => ?_) (fun c28 : kB (frF f p k t) ≠ 0 => ?_)
    · replace c28 : ¬(frF f p k t) := kB_z.mp c28
      refine k_iconst (pc1 := 36) dX6_isFree_35 rfl ?_
      exact k_iret dX6_isFree_36 rfl rfl (kMt_mk (c1 := 0) (v1 := 0) (f1 := f) (by unfold TisFree; first | exact kI_f (by omega) | (rw [kI_t (by omega)]; first | rw [kB_t (by assumption)] | rw [kB_f (by assumption)])) hM64 hF64)
    · replace c28 : (frF f p k t) := kB_nz.mp c28
      refine k_iconst (pc1 := 32) dX6_isFree_31 rfl ?_
      refine k_goto dX6_isFree_32 (tgt := 36) rfl ?_
      exact k_iret dX6_isFree_36 rfl rfl (kMt_mk (c1 := 0) (v1 := 1) (f1 := f) (by unfold TisFree; first | exact kI_f (by omega) | (rw [kI_t (by omega)]; first | rw [kB_t (by assumption)] | rw [kB_f (by assumption)])) hM64 hF64)
  · replace c7 : (¬(0 ≤ p ∧ p ≤ 5) ∨ ¬(0 ≤ k ∧ k ≤ 27) ∨ ¬(0 ≤ t ∧ t ≤ 15)) := kB_nz.mp c7
    refine k_iconst (pc1 := 11) dX6_isFree_10 rfl ?_
    refine k_goto dX6_isFree_11 (tgt := 15) rfl ?_
    refine k_callVM (c' := 1) (wm' := (-1)) (wd' := (-1)) (f' := f) (v := .int (iI 1)) dX6_isFree_15 rfl lk_RX6_34 o_X6_fails hM (w_X6_failsT hl hM (by decide)) (as := [.int (iI 1)]) rfl rfl rfl (by decide) (by decide) (k8 rfl) (fun h65 hM65 hX65 => ?_)
    have hF65 := kFm_tr (kFm_rf o g r h) hX65
    refine k_if_ne (a := 1) dX6_isFree_18 rfl (tgt := 35) rfl (by decide) (fun _ => ?_) (fun c => absurd c (by decide))
    refine k_iconst (pc1 := 36) dX6_isFree_35 rfl ?_
    exact k_iret dX6_isFree_36 rfl rfl (kMt_mk (c1 := 1) (v1 := 0) (f1 := f) (by unfold TisFree; first | exact kI_f (by omega) | (rw [kI_t (by omega)]; first | rw [kB_t (by assumption)] | rw [kB_f (by assumption)])) hM65 hF65)
theorem w_X6_meetingOf {l : Launch} {G : kG} {h : kAH} {o g r : Nat} {c : Int} {f : Nat → Int} (hl : l.stackTraces = false) (hM : kMd G h o g r c (-1) (-1) f) (hW : kWf f) (p k t : Int) (rp : -2147483648 ≤ p ∧ p < 2147483648) (rk : -2147483648 ≤ k ∧ k < 2147483648) (rt : -2147483648 ≤ t ∧ t < 2147483648) : kC l G m_X6_meetingOf 7 0 0 [.ref o, .int (iI p), .int (iI k), .int (iI t)] h (kMt G o g r (TmeetingOf f p k t) h) kNo := by
  have hwm : -1 ≤ (-1 : Int) ∧ (-1 : Int) < 8 := by decide
  have hwd : -1 ≤ (-1 : Int) ∧ (-1 : Int) < 6 := by decide
  have h8 := kWf_cnt hW
  have h9 := kWf_nxt hW
  refine kC_of hl rfl rfl (Nat.le_of_ble_eq_true rfl) (L := [some (.ref o), some (.int (iI p)), some (.int (iI k)), some (.int (iI t)), none, none, none]) rfl ?_
  refine k_aload_n (pc1 := 1) dX6_meetingOf_0 rfl rfl ?_
  refine k_iload_n (pc1 := 2) dX6_meetingOf_1 rfl rfl ?_
  refine k_iload_n (pc1 := 3) dX6_meetingOf_2 rfl rfl ?_
  refine k_iload_n (pc1 := 4) dX6_meetingOf_3 rfl rfl ?_
  refine k_callSP dX6_meetingOf_4 rfl lk_RX6_114 o_X6_isNoTime (w_X6_isNoTime hl p k t (by omega) (by omega) (by omega)) (as := [.int (iI p), .int (iI k), .int (iI t)]) rfl rfl rfl (by decide) (by decide) (k8 rfl) ?_
  refine k_if_eq (a := kB (¬(0 ≤ p ∧ p ≤ 5) ∨ ¬(0 ≤ k ∧ k ≤ 27) ∨ ¬(0 ≤ t ∧ t ≤ 15))) dX6_meetingOf_7 rfl (tgt := 14) rfl (kB_r _) (fun c7 : kB (¬(0 ≤ p ∧ p ≤ 5) ∨ ¬(0 ≤ k ∧ k ≤ 27) ∨ ¬(0 ≤ t ∧ t ≤ 15)) = 0 => ?_) (fun c7 : kB (¬(0 ≤ p ∧ p ≤ 5) ∨ ¬(0 ≤ k ∧ k ≤ 27) ∨ ¬(0 ≤ t ∧ t ≤ 15)) ≠ 0 => ?_)
  · replace c7 : ¬(¬(0 ≤ p ∧ p ≤ 5) ∨ ¬(0 ≤ k ∧ k ≤ 27) ∨ ¬(0 ≤ t ∧ t ≤ 15)) := kB_z.mp c7
    refine k_aload_n (pc1 := 15) dX6_meetingOf_14 rfl rfl ?_
    refine k_iload_n (pc1 := 16) dX6_meetingOf_15 rfl rfl ?_
    refine k_iload_n (pc1 := 17) dX6_meetingOf_16 rfl rfl ?_
    refine k_iload_n (pc1 := 18) dX6_meetingOf_17 rfl rfl ?_
    refine k_callVP dX6_meetingOf_18 rfl lk_RX6_117 o_X6_isFreeAt (w_X6_isFreeAt hl hM p k t hW ⟨by omega, by omega⟩ ⟨by omega, by omega⟩ ⟨by omega, by omega⟩ ) (as := [.int (iI p), .int (iI k), .int (iI t)]) hM.1 rfl rfl rfl rfl (by decide) (by decide) (k8 rfl) ?_
    refine k_if_eq (a := kB (frF f p k t)) dX6_meetingOf_21 rfl (tgt := 28) rfl (kB_r _) (fun c21 : kB (frF f p k t) = 0 => ?_) (fun c21 : kB (frF f p k t) ≠ 0 => ?_)
    · replace c21 : ¬(frF f p k t) := kB_z.mp c21
      refine k_iconst (pc1 := 29) dX6_meetingOf_28 rfl ?_
      refine k_callVM (c' := 0) (wm' := (-1)) (wd' := (-1)) (f' := f) (v := .int (iI 0)) dX6_meetingOf_29 rfl lk_RX6_34 o_X6_fails hM (w_X6_failsF hl hM) (as := [.int (iI 0)]) rfl rfl rfl (by decide) (by decide) (k8 rfl) (fun h66 hM66 hX66 => ?_)
      have hF66 := kFm_tr (kFm_rf o g r h) hX66
      refine k_if_eq (a := 0) dX6_meetingOf_32 rfl (tgt := 37) rfl (by decide) (fun _ => ?_) (fun c => absurd c (by decide))
      refine k_iconst (pc1 := 38) dX6_meetingOf_37 rfl ?_
      refine k_istore (pc1 := 40) dX6_meetingOf_38 rfl (by decide) (k_loc (L' := [some (.ref o), some (.int (iI p)), some (.int (iI k)), some (.int (iI t)), some (.int (iI (-1))), none, none]) rfl ?_)
      refine k_iconst (pc1 := 41) dX6_meetingOf_40 rfl ?_
      refine k_istore (pc1 := 43) dX6_meetingOf_41 rfl (by decide) (k_loc (L' := [some (.ref o), some (.int (iI p)), some (.int (iI k)), some (.int (iI t)), some (.int (iI (-1))), some (.int (iI 0)), none]) rfl ?_)
      have hloop43 : ∀ (zz : Nat) (m : Int) (x : Int), zz = (f 1 - m).toNat → (0 ≤ m) → (m ≤ f 1) → (moI f p k t m 0 x) → kW l G m_X6_meetingOf 7 (kMt G o g r (TmeetingOf f p k t) h) kNo 0 0 43 [some (.ref o), some (.int (iI p)), some (.int (iI k)), some (.int (iI t)), some (.int (iI x)), some (.int (iI m)), none] [] h66 := by
        intro zz
        induction zz using Nat.strongRecOn with
        | ind zz ih43 =>
        intro m x hr43 hm0 hm1 hB
        refine k_iload (pc1 := 45) dX6_meetingOf_43 rfl rfl ?_
        refine k_aload_n (pc1 := 46) dX6_meetingOf_45 rfl rfl ?_
        refine k_get (pc1 := 49) dX6_meetingOf_46 rfl fd_RX6_7 hM66.1 (v := .ref g) rfl ?_
        refine k_iconst (pc1 := 50) dX6_meetingOf_49 rfl ?_
        refine k_iald (i := 1) (f := f) (pc1 := 51) dX6_meetingOf_50 rfl hM66.2.1 (N := 380) (by omega) (by omega) (by decide) (k_val (v' := .int (iI (f 1))) rfl ?_)
        refine k_icmp_ge (a := m) (b := (f 1)) dX6_meetingOf_51 rfl (tgt := 125) rfl (by omega) (by omega) (fun c51 : (f 1) ≤ m => ?_) (fun c51 : m < (f 1) => ?_)
        · skip
          refine k_iload (pc1 := 127) dX6_meetingOf_125 rfl rfl ?_
          exact k_iret dX6_meetingOf_127 rfl rfl (kMt_mk (c1 := 0) (v1 := x) (f1 := f) (by have e := moI_end hW ⟨by omega, by omega⟩ hB (by omega) c21; subst e; exact (kI_t (by omega)).trans (kI_f c21)) hM66 hF66)
        · skip
          have hm := kWf_m hW hm0 c51
          refine k_iconst (pc1 := 55) dX6_meetingOf_54 rfl ?_
          refine k_istore (pc1 := 57) dX6_meetingOf_55 rfl (by decide) (k_loc (L' := [some (.ref o), some (.int (iI p)), some (.int (iI k)), some (.int (iI t)), some (.int (iI x)), some (.int (iI m)), some (.int (iI 0))]) rfl ?_)
          have hloop57 : ∀ (zz : Nat) (dt : Int) (x : Int), zz = (oF f m 3 - dt).toNat → (0 ≤ dt) → (dt ≤ oF f m 3) → (moI f p k t m dt x) → kW l G m_X6_meetingOf 7 (kMt G o g r (TmeetingOf f p k t) h) kNo 0 0 57 [some (.ref o), some (.int (iI p)), some (.int (iI k)), some (.int (iI t)), some (.int (iI x)), some (.int (iI m)), some (.int (iI dt))] [] h66 := by
            intro zz
            induction zz using Nat.strongRecOn with
            | ind zz ih57 =>
            intro dt x hr57 hd0 hd1 hB
            refine k_iload (pc1 := 59) dX6_meetingOf_57 rfl rfl ?_
            refine k_aload_n (pc1 := 60) dX6_meetingOf_59 rfl rfl ?_
            refine k_iload (pc1 := 62) dX6_meetingOf_60 rfl rfl ?_
            refine k_iconst (pc1 := 63) dX6_meetingOf_62 rfl ?_
            refine k_callVP dX6_meetingOf_63 rfl lk_RX6_37 o_X6_of (w_X6_of hl hM66 m 3 (by omega) (by omega)) (as := [.int (iI m), .int (iI 3)]) hM66.1 rfl rfl rfl rfl (by decide) (by decide) (k8 rfl) ?_
            refine k_icmp_ge (a := dt) (b := (oF f m 3)) dX6_meetingOf_66 rfl (tgt := 119) rfl (by omega) (by omega) (fun c66 : (oF f m 3) ≤ dt => ?_) (fun c66 : dt < (oF f m 3) => ?_)
            · skip
              refine k_iinc (a := m) (pc1 := 122) dX6_meetingOf_119 rfl rfl (by decide) (k_loc (L' := [some (.ref o), some (.int (iI p)), some (.int (iI k)), some (.int (iI t)), some (.int (iI x)), some (.int (iI (m + 1))), some (.int (iI dt))]) rfl ?_)
              refine k_goto dX6_meetingOf_122 (tgt := 43) rfl ?_
              refine k_forget 6 (k_loc (L' := [some (.ref o), some (.int (iI p)), some (.int (iI k)), some (.int (iI t)), some (.int (iI x)), some (.int (iI (m + 1))), none]) rfl ?_)
              exact ih43 _ (by omega) (m + 1) x rfl (by omega) (by omega) (moI_next hB hm0 (by omega))
            · skip
              have hi : inP f m dt := ⟨hm0, c51, hd0, c66⟩
              refine k_aload_n (pc1 := 70) dX6_meetingOf_69 rfl rfl ?_
              refine k_iload (pc1 := 72) dX6_meetingOf_70 rfl rfl ?_
              refine k_iload_n (pc1 := 73) dX6_meetingOf_72 rfl rfl ?_
              refine k_callVP dX6_meetingOf_73 rfl lk_RX6_41 o_X6_isExpected (w_X6_isExpected hl hM66 m p hW (by omega) (by omega) (by omega) (by omega)) (as := [.int (iI m), .int (iI p)]) hM66.1 rfl rfl rfl rfl (by decide) (by decide) (k8 rfl) ?_
              refine k_if_eq (a := kB (exF f m p)) dX6_meetingOf_76 rfl (tgt := 113) rfl (kB_r _) (fun c76 : kB (exF f m p) = 0 => ?_) (fun c76 : kB (exF f m p) ≠ 0 => ?_)
              · replace c76 : ¬(exF f m p) := kB_z.mp c76
                refine k_iinc (a := dt) (pc1 := 116) dX6_meetingOf_113 rfl rfl (by decide) (k_loc (L' := [some (.ref o), some (.int (iI p)), some (.int (iI k)), some (.int (iI t)), some (.int (iI x)), some (.int (iI m)), some (.int (iI (dt + 1)))]) rfl ?_)
                refine k_goto dX6_meetingOf_116 (tgt := 57) rfl ?_
                exact ih57 _ (by omega) (dt + 1) x rfl (by omega) (by omega) (moI_skip hB hd0 (fun z => by first | exact c76 z.1 | exact c88 z.2.1 | (have := z.2.2; omega)))
              · replace c76 : (exF f m p) := kB_nz.mp c76
                refine k_aload_n (pc1 := 80) dX6_meetingOf_79 rfl rfl ?_
                refine k_iload (pc1 := 82) dX6_meetingOf_80 rfl rfl ?_
                refine k_iload (pc1 := 84) dX6_meetingOf_82 rfl rfl ?_
                refine k_iload_n (pc1 := 85) dX6_meetingOf_84 rfl rfl ?_
                refine k_callVP dX6_meetingOf_85 rfl lk_RX6_52 o_X6_counts (w_X6_counts hl hM66 m dt k hW ⟨by omega, by omega, by omega, by omega⟩ hwm hwd (by omega)) (as := [.int (iI m), .int (iI dt), .int (iI k)]) hM66.1 rfl rfl rfl rfl (by decide) (by decide) (k8 rfl) ?_
                refine k_if_eq (a := kB (ctF f (-1) (-1) m dt k)) dX6_meetingOf_88 rfl (tgt := 113) rfl (kB_r _) (fun c88 : kB (ctF f (-1) (-1) m dt k) = 0 => ?_) (fun c88 : kB (ctF f (-1) (-1) m dt k) ≠ 0 => ?_)
                · replace c88 : ¬(ctF f (-1) (-1) m dt k) := kB_z.mp c88
                  refine k_iinc (a := dt) (pc1 := 116) dX6_meetingOf_113 rfl rfl (by decide) (k_loc (L' := [some (.ref o), some (.int (iI p)), some (.int (iI k)), some (.int (iI t)), some (.int (iI x)), some (.int (iI m)), some (.int (iI (dt + 1)))]) rfl ?_)
                  refine k_goto dX6_meetingOf_116 (tgt := 57) rfl ?_
                  exact ih57 _ (by omega) (dt + 1) x rfl (by omega) (by omega) (moI_skip hB hd0 (fun z => by first | exact c76 z.1 | exact c88 z.2.1 | (have := z.2.2; omega)))
                · replace c88 : (ctF f (-1) (-1) m dt k) := kB_nz.mp c88
                  have hbr := btF_r (t := t) (n := 1) hW hi ⟨by omega, by omega⟩ (by decide)
                  refine k_aload_n (pc1 := 92) dX6_meetingOf_91 rfl rfl ?_
                  refine k_iload (pc1 := 94) dX6_meetingOf_92 rfl rfl ?_
                  refine k_iload (pc1 := 96) dX6_meetingOf_94 rfl rfl ?_
                  refine k_iload_n (pc1 := 97) dX6_meetingOf_96 rfl rfl ?_
                  refine k_iconst (pc1 := 98) dX6_meetingOf_97 rfl ?_
                  refine k_callVP dX6_meetingOf_98 rfl lk_RX6_55 o_X6_between (w_X6_between hl hM66 m dt t 1 hW ⟨by omega, by omega, by omega, by omega⟩ ⟨by omega, by omega⟩ ⟨by omega, by omega⟩) (as := [.int (iI m), .int (iI dt), .int (iI t), .int (iI 1)]) hM66.1 rfl rfl rfl rfl (by decide) (by decide) (k8 rfl) ?_
                  refine k_if_ge (a := (btF f m dt t 1)) dX6_meetingOf_101 rfl (tgt := 113) rfl (by omega) (fun c101 : 0 ≤ (btF f m dt t 1) => ?_) (fun c101 : (btF f m dt t 1) < 0 => ?_)
                  · skip
                    refine k_iinc (a := dt) (pc1 := 116) dX6_meetingOf_113 rfl rfl (by decide) (k_loc (L' := [some (.ref o), some (.int (iI p)), some (.int (iI k)), some (.int (iI t)), some (.int (iI x)), some (.int (iI m)), some (.int (iI (dt + 1)))]) rfl ?_)
                    refine k_goto dX6_meetingOf_116 (tgt := 57) rfl ?_
                    exact ih57 _ (by omega) (dt + 1) x rfl (by omega) (by omega) (moI_skip hB hd0 (fun z => by first | exact c76 z.1 | exact c88 z.2.1 | (have := z.2.2; omega)))
                  · skip
                    refine k_aload_n (pc1 := 105) dX6_meetingOf_104 rfl rfl ?_
                    refine k_iload (pc1 := 107) dX6_meetingOf_105 rfl rfl ?_
                    refine k_iconst (pc1 := 108) dX6_meetingOf_107 rfl ?_
                    refine k_callVP dX6_meetingOf_108 rfl lk_RX6_37 o_X6_of (w_X6_of hl hM66 m 0 (by omega) (by omega)) (as := [.int (iI m), .int (iI 0)]) hM66.1 rfl rfl rfl rfl (by decide) (by decide) (k8 rfl) ?_
                    refine k_istore (pc1 := 113) dX6_meetingOf_111 rfl (by decide) (k_loc (L' := [some (.ref o), some (.int (iI p)), some (.int (iI k)), some (.int (iI t)), some (.int (iI (oF f m 0))), some (.int (iI m)), some (.int (iI dt))]) rfl ?_)
                    refine k_iinc (a := dt) (pc1 := 116) dX6_meetingOf_113 rfl rfl (by decide) (k_loc (L' := [some (.ref o), some (.int (iI p)), some (.int (iI k)), some (.int (iI t)), some (.int (iI (oF f m 0))), some (.int (iI m)), some (.int (iI (dt + 1)))]) rfl ?_)
                    refine k_goto dX6_meetingOf_116 (tgt := 57) rfl ?_
                    exact ih57 _ (by omega) (dt + 1) _ rfl (by omega) (by omega) (moI_take (x := x) hd0 ⟨c76, c88, c101⟩)
          exact hloop57 _ 0 x rfl (by omega) (by omega) hB
      exact hloop43 _ 0 (-1) rfl (by omega) (by omega) moI_0
    · replace c21 : (frF f p k t) := kB_nz.mp c21
      refine k_iconst (pc1 := 25) dX6_meetingOf_24 rfl ?_
      refine k_goto dX6_meetingOf_25 (tgt := 29) rfl ?_
      refine k_callVM (c' := 2) (wm' := (-1)) (wd' := (-1)) (f' := f) (v := .int (iI 1)) dX6_meetingOf_29 rfl lk_RX6_34 o_X6_fails hM (w_X6_failsT hl hM (by decide)) (as := [.int (iI 2)]) rfl rfl rfl (by decide) (by decide) (k8 rfl) (fun h67 hM67 hX67 => ?_)
      have hF67 := kFm_tr (kFm_rf o g r h) hX67
      refine k_if_eq (a := 1) dX6_meetingOf_32 rfl (tgt := 37) rfl (by decide) (fun c => absurd c (by decide)) (fun _ => ?_)
      refine k_iconst (pc1 := 36) dX6_meetingOf_35 rfl ?_
      exact k_iret dX6_meetingOf_36 rfl rfl (kMt_mk (c1 := 2) (v1 := 0) (f1 := f) (by unfold TmeetingOf; first | exact kI_f (by omega) | exact (kI_t (by omega)).trans (kI_t (by assumption))) hM67 hF67)
  · replace c7 : (¬(0 ≤ p ∧ p ≤ 5) ∨ ¬(0 ≤ k ∧ k ≤ 27) ∨ ¬(0 ≤ t ∧ t ≤ 15)) := kB_nz.mp c7
    refine k_iconst (pc1 := 11) dX6_meetingOf_10 rfl ?_
    refine k_goto dX6_meetingOf_11 (tgt := 29) rfl ?_
    refine k_callVM (c' := 1) (wm' := (-1)) (wd' := (-1)) (f' := f) (v := .int (iI 1)) dX6_meetingOf_29 rfl lk_RX6_34 o_X6_fails hM (w_X6_failsT hl hM (by decide)) (as := [.int (iI 1)]) rfl rfl rfl (by decide) (by decide) (k8 rfl) (fun h68 hM68 hX68 => ?_)
    have hF68 := kFm_tr (kFm_rf o g r h) hX68
    refine k_if_eq (a := 1) dX6_meetingOf_32 rfl (tgt := 37) rfl (by decide) (fun c => absurd c (by decide)) (fun _ => ?_)
    refine k_iconst (pc1 := 36) dX6_meetingOf_35 rfl ?_
    exact k_iret dX6_meetingOf_36 rfl rfl (kMt_mk (c1 := 1) (v1 := 0) (f1 := f) (by unfold TmeetingOf; first | exact kI_f (by omega) | exact (kI_t (by omega)).trans (kI_t (by assumption))) hM68 hF68)
theorem w_X6_frees {l : Launch} {G : kG} {h : kAH} {o g r : Nat} {c : Int} {f : Nat → Int} (hl : l.stackTraces = false) (hM : kMd G h o g r c (-1) (-1) f) (hW : kWf f) (p k : Int) (rp : -2147483648 ≤ p ∧ p < 2147483648) (rk : -2147483648 ≤ k ∧ k < 2147483648) : kC l G m_X6_frees 7 0 0 [.ref o, .int (iI p), .int (iI k)] h (kMt G o g r (Tfrees f p k) h) kNo := by
  have hwm : -1 ≤ (-1 : Int) ∧ (-1 : Int) < 8 := by decide
  have hwd : -1 ≤ (-1 : Int) ∧ (-1 : Int) < 6 := by decide
  have h8 := kWf_cnt hW
  have h9 := kWf_nxt hW
  refine kC_of hl rfl rfl (Nat.le_of_ble_eq_true rfl) (L := [some (.ref o), some (.int (iI p)), some (.int (iI k)), none, none]) rfl ?_
  refine k_aload_n (pc1 := 1) dX6_frees_0 rfl rfl ?_
  refine k_iload_n (pc1 := 2) dX6_frees_1 rfl rfl ?_
  refine k_callSP dX6_frees_2 rfl lk_RX6_74 o_X6_isPerson (w_X6_isPerson hl p (by omega)) (as := [.int (iI p)]) rfl rfl rfl (by decide) (by decide) (k8 rfl) ?_
  refine k_if_eq (a := kB (0 ≤ p ∧ p ≤ 5)) dX6_frees_5 rfl (tgt := 19) rfl (kB_r _) (fun c5 : kB (0 ≤ p ∧ p ≤ 5) = 0 => ?_) (fun c5 : kB (0 ≤ p ∧ p ≤ 5) ≠ 0 => ?_)
  · replace c5 : ¬(0 ≤ p ∧ p ≤ 5) := kB_z.mp c5
    refine k_iconst (pc1 := 20) dX6_frees_19 rfl ?_
    refine k_callVM (c' := 1) (wm' := (-1)) (wd' := (-1)) (f' := f) (v := .int (iI 1)) dX6_frees_20 rfl lk_RX6_34 o_X6_fails hM (w_X6_failsT hl hM (by decide)) (as := [.int (iI 1)]) rfl rfl rfl (by decide) (by decide) (k8 rfl) (fun h69 hM69 hX69 => ?_)
    have hF69 := kFm_tr (kFm_rf o g r h) hX69
    refine k_if_eq (a := 1) dX6_frees_23 rfl (tgt := 28) rfl (by decide) (fun c => absurd c (by decide)) (fun _ => ?_)
    refine k_iconst (pc1 := 27) dX6_frees_26 rfl ?_
    exact k_iret dX6_frees_27 rfl rfl (kMt_mk (c1 := 1) (v1 := 0) (f1 := f) (by first | exact kI_t (by first | omega | assumption) | exact kI_f (by first | omega | assumption)) hM69 hF69)
  · replace c5 : (0 ≤ p ∧ p ≤ 5) := kB_nz.mp c5
    refine k_iload_n (pc1 := 9) dX6_frees_8 rfl rfl ?_
    refine k_callSP dX6_frees_9 rfl lk_RX6_77 o_X6_isDay (w_X6_isDay hl k (by omega)) (as := [.int (iI k)]) rfl rfl rfl (by decide) (by decide) (k8 rfl) ?_
    refine k_if_eq (a := kB (0 ≤ k ∧ k ≤ 27)) dX6_frees_12 rfl (tgt := 19) rfl (kB_r _) (fun c12 : kB (0 ≤ k ∧ k ≤ 27) = 0 => ?_) (fun c12 : kB (0 ≤ k ∧ k ≤ 27) ≠ 0 => ?_)
    · replace c12 : ¬(0 ≤ k ∧ k ≤ 27) := kB_z.mp c12
      refine k_iconst (pc1 := 20) dX6_frees_19 rfl ?_
      refine k_callVM (c' := 1) (wm' := (-1)) (wd' := (-1)) (f' := f) (v := .int (iI 1)) dX6_frees_20 rfl lk_RX6_34 o_X6_fails hM (w_X6_failsT hl hM (by decide)) (as := [.int (iI 1)]) rfl rfl rfl (by decide) (by decide) (k8 rfl) (fun h70 hM70 hX70 => ?_)
      have hF70 := kFm_tr (kFm_rf o g r h) hX70
      refine k_if_eq (a := 1) dX6_frees_23 rfl (tgt := 28) rfl (by decide) (fun c => absurd c (by decide)) (fun _ => ?_)
      refine k_iconst (pc1 := 27) dX6_frees_26 rfl ?_
      exact k_iret dX6_frees_27 rfl rfl (kMt_mk (c1 := 1) (v1 := 0) (f1 := f) (by first | exact kI_t (by first | omega | assumption) | exact kI_f (by first | omega | assumption)) hM70 hF70)
    · replace c12 : (0 ≤ k ∧ k ≤ 27) := kB_nz.mp c12
      refine k_iconst (pc1 := 16) dX6_frees_15 rfl ?_
      refine k_goto dX6_frees_16 (tgt := 20) rfl ?_
      refine k_callVM (c' := 0) (wm' := (-1)) (wd' := (-1)) (f' := f) (v := .int (iI 0)) dX6_frees_20 rfl lk_RX6_34 o_X6_fails hM (w_X6_failsF hl hM) (as := [.int (iI 0)]) rfl rfl rfl (by decide) (by decide) (k8 rfl) (fun h71 hM71 hX71 => ?_)
      have hF71 := kFm_tr (kFm_rf o g r h) hX71
      refine k_if_eq (a := 0) dX6_frees_23 rfl (tgt := 28) rfl (by decide) (fun _ => ?_) (fun c => absurd c (by decide))
      refine k_iconst (pc1 := 29) dX6_frees_28 rfl ?_
      refine k_istore_n (pc1 := 30) dX6_frees_29 rfl (by decide) (k_loc (L' := [some (.ref o), some (.int (iI p)), some (.int (iI k)), some (.int (iI 0)), none]) rfl ?_)
      refine k_iconst (pc1 := 31) dX6_frees_30 rfl ?_
      refine k_istore (pc1 := 33) dX6_frees_31 rfl (by decide) (k_loc (L' := [some (.ref o), some (.int (iI p)), some (.int (iI k)), some (.int (iI 0)), some (.int (iI 0))]) rfl ?_)
      have hloop33 : ∀ (zz : Nat) (i : Nat), zz = 16 - i → (i ≤ 16) → kW l G m_X6_frees 7 (kMt G o g r (Tfrees f p k) h) kNo 0 0 33 [some (.ref o), some (.int (iI p)), some (.int (iI k)), some (.int (iI (ksm (fun t => kB (frF f p k (t : Int))) i))), some (.int (iI ((i : Nat) : Int)))] [] h71 := by
        intro zz
        induction zz using Nat.strongRecOn with
        | ind zz ih33 =>
        intro i hr33 hi
        refine k_iload (pc1 := 35) dX6_frees_33 rfl rfl ?_
        refine k_bipush 16 (pc1 := 37) dX6_frees_35 rfl (by decide) ?_
        refine k_icmp_ge (a := ((i : Nat) : Int)) (b := 16) dX6_frees_37 rfl (tgt := 65) rfl (by omega) (by decide) (fun c37 : 16 ≤ ((i : Nat) : Int) => ?_) (fun c37 : ((i : Nat) : Int) < 16 => ?_)
        · skip
          refine k_iload_n (pc1 := 66) dX6_frees_65 rfl rfl ?_
          exact k_iret dX6_frees_66 rfl rfl (kMt_mk (c1 := 0) (v1 := (ksm (fun t => kB (frF f p k (t : Int))) i)) (f1 := f) (by have e : i = 16 := (by omega); subst e; exact kI_t (by omega)) hM71 hF71)
        · skip
          refine k_iload_n (pc1 := 41) dX6_frees_40 rfl rfl ?_
          refine k_aload_n (pc1 := 42) dX6_frees_41 rfl rfl ?_
          refine k_iload_n (pc1 := 43) dX6_frees_42 rfl rfl ?_
          refine k_iload_n (pc1 := 44) dX6_frees_43 rfl rfl ?_
          refine k_iload (pc1 := 46) dX6_frees_44 rfl rfl ?_
          refine k_callVP dX6_frees_46 rfl lk_RX6_117 o_X6_isFreeAt (w_X6_isFreeAt hl hM71 p k ((i : Nat) : Int) hW ⟨by omega, by omega⟩ ⟨by omega, by omega⟩ ⟨by omega, by omega⟩ ) (as := [.int (iI p), .int (iI k), .int (iI ((i : Nat) : Int))]) hM71.1 rfl rfl rfl rfl (by decide) (by decide) (k8 rfl) ?_
          refine k_if_eq (a := kB (frF f p k ((i : Nat) : Int))) dX6_frees_49 rfl (tgt := 56) rfl (kB_r _) (fun c49 : kB (frF f p k ((i : Nat) : Int)) = 0 => ?_) (fun c49 : kB (frF f p k ((i : Nat) : Int)) ≠ 0 => ?_)
          · replace c49 : ¬(frF f p k ((i : Nat) : Int)) := kB_z.mp c49
            refine k_iconst (pc1 := 57) dX6_frees_56 rfl ?_
            refine k_iadd (a := (ksm (fun t => kB (frF f p k (t : Int))) i)) (b := 0) (pc1 := 58) dX6_frees_57 rfl ?_
            refine k_istore_n (pc1 := 59) dX6_frees_58 rfl (by decide) (k_loc (L' := [some (.ref o), some (.int (iI p)), some (.int (iI k)), some (.int (iI ((ksm (fun t => kB (frF f p k (t : Int))) i) + 0))), some (.int (iI ((i : Nat) : Int)))]) rfl ?_)
            refine k_iinc (a := ((i : Nat) : Int)) (pc1 := 62) dX6_frees_59 rfl rfl (by decide) (k_loc (L' := [some (.ref o), some (.int (iI p)), some (.int (iI k)), some (.int (iI ((ksm (fun t => kB (frF f p k (t : Int))) i) + 0))), some (.int (iI (((i : Nat) : Int) + 1)))]) rfl ?_)
            refine k_goto dX6_frees_62 (tgt := 33) rfl ?_
            have e : (ksm (fun t => kB (frF f p k (t : Int))) (i + 1)) = ((ksm (fun t => kB (frF f p k (t : Int))) i) + 0) := congrArg (fun z => (ksm (fun t => kB (frF f p k (t : Int))) i) + z) (kB_f c49)
            refine k_loc (L' := [some (.ref o), some (.int (iI p)), some (.int (iI k)), some (.int (iI (ksm (fun t => kB (frF f p k (t : Int))) (i + 1)))), some (.int (iI (((i : Nat) : Int) + 1)))]) (by rw [e]) ?_
            exact ih33 _ (by omega) (i + 1) rfl (by omega)
          · replace c49 : (frF f p k ((i : Nat) : Int)) := kB_nz.mp c49
            refine k_iconst (pc1 := 53) dX6_frees_52 rfl ?_
            refine k_goto dX6_frees_53 (tgt := 57) rfl ?_
            refine k_iadd (a := (ksm (fun t => kB (frF f p k (t : Int))) i)) (b := 1) (pc1 := 58) dX6_frees_57 rfl ?_
            refine k_istore_n (pc1 := 59) dX6_frees_58 rfl (by decide) (k_loc (L' := [some (.ref o), some (.int (iI p)), some (.int (iI k)), some (.int (iI ((ksm (fun t => kB (frF f p k (t : Int))) i) + 1))), some (.int (iI ((i : Nat) : Int)))]) rfl ?_)
            refine k_iinc (a := ((i : Nat) : Int)) (pc1 := 62) dX6_frees_59 rfl rfl (by decide) (k_loc (L' := [some (.ref o), some (.int (iI p)), some (.int (iI k)), some (.int (iI ((ksm (fun t => kB (frF f p k (t : Int))) i) + 1))), some (.int (iI (((i : Nat) : Int) + 1)))]) rfl ?_)
            refine k_goto dX6_frees_62 (tgt := 33) rfl ?_
            have e : (ksm (fun t => kB (frF f p k (t : Int))) (i + 1)) = ((ksm (fun t => kB (frF f p k (t : Int))) i) + 1) := congrArg (fun z => (ksm (fun t => kB (frF f p k (t : Int))) i) + z) (kB_t c49)
            refine k_loc (L' := [some (.ref o), some (.int (iI p)), some (.int (iI k)), some (.int (iI (ksm (fun t => kB (frF f p k (t : Int))) (i + 1)))), some (.int (iI (((i : Nat) : Int) + 1)))]) (by rw [e]) ?_
            exact ih33 _ (by omega) (i + 1) rfl (by omega)
      exact hloop33 _ 0 rfl (by omega)
theorem w_X6_freeTimes {l : Launch} {G : kG} {h : kAH} {o g r : Nat} {c : Int} {f : Nat → Int} (hl : l.stackTraces = false) (hM : kMd G h o g r c (-1) (-1) f) (hW : kWf f) (p k : Int) (rp : -2147483648 ≤ p ∧ p < 2147483648) (rk : -2147483648 ≤ k ∧ k < 2147483648) : kC l G m_X6_freeTimes 8 0 0 [.ref o, .int (iI p), .int (iI k)] h (kMt G o g r (Tfrees f p k) h) kNo := by
  have hwm : -1 ≤ (-1 : Int) ∧ (-1 : Int) < 8 := by decide
  have hwd : -1 ≤ (-1 : Int) ∧ (-1 : Int) < 6 := by decide
  refine kC_of hl rfl rfl (Nat.le_of_ble_eq_true rfl) (L := [some (.ref o), some (.int (iI p)), some (.int (iI k))]) rfl ?_
  refine k_aload_n (pc1 := 1) dX6_freeTimes_0 rfl rfl ?_
  refine k_iload_n (pc1 := 2) dX6_freeTimes_1 rfl rfl ?_
  refine k_iload_n (pc1 := 3) dX6_freeTimes_2 rfl rfl ?_
  refine k_callVM (c' := (Tfrees f p k).1) (wm' := (-1)) (wd' := (-1)) (f' := (Tfrees f p k).2.2) (v := .int (iI ((Tfrees f p k).2.1))) dX6_freeTimes_3 rfl lk_RX6_120 o_X6_frees hM (w_X6_frees hl hM hW p k rp rk) (as := [.int (iI p), .int (iI k)]) rfl rfl rfl (by decide) (by decide) (k8 rfl) (fun h72 hM72 hX72 => ?_)
  have hF72 := kFm_tr (kFm_rf o g r h) hX72
  exact k_iret dX6_freeTimes_6 rfl rfl (kMt_mk (c1 := (Tfrees f p k).1) (v1 := (Tfrees f p k).2.1) (f1 := (Tfrees f p k).2.2) (by rfl) hM72 hF72)
theorem w_X6_freeByTrying {l : Launch} {G : kG} {h : kAH} {o g r : Nat} {c : Int} {f : Nat → Int} (hl : l.stackTraces = false) (hM : kMd G h o g r c (-1) (-1) f) (hW : kWf f) (p k : Int) (rp : -2147483648 ≤ p ∧ p < 2147483648) (rk : -2147483648 ≤ k ∧ k < 2147483648) : kC l G m_X6_freeByTrying 8 0 0 [.ref o, .int (iI p), .int (iI k)] h (kMt G o g r (Tfrees f p k) h) kNo := by
  have hwm : -1 ≤ (-1 : Int) ∧ (-1 : Int) < 8 := by decide
  have hwd : -1 ≤ (-1 : Int) ∧ (-1 : Int) < 6 := by decide
  refine kC_of hl rfl rfl (Nat.le_of_ble_eq_true rfl) (L := [some (.ref o), some (.int (iI p)), some (.int (iI k))]) rfl ?_
  refine k_aload_n (pc1 := 1) dX6_freeByTrying_0 rfl rfl ?_
  refine k_iload_n (pc1 := 2) dX6_freeByTrying_1 rfl rfl ?_
  refine k_iload_n (pc1 := 3) dX6_freeByTrying_2 rfl rfl ?_
  refine k_callVM (c' := (Tfrees f p k).1) (wm' := (-1)) (wd' := (-1)) (f' := (Tfrees f p k).2.2) (v := .int (iI ((Tfrees f p k).2.1))) dX6_freeByTrying_3 rfl lk_RX6_120 o_X6_frees hM (w_X6_frees hl hM hW p k rp rk) (as := [.int (iI p), .int (iI k)]) rfl rfl rfl (by decide) (by decide) (k8 rfl) (fun h73 hM73 hX73 => ?_)
  have hF73 := kFm_tr (kFm_rf o g r h) hX73
  exact k_iret dX6_freeByTrying_6 rfl rfl (kMt_mk (c1 := (Tfrees f p k).1) (v1 := (Tfrees f p k).2.1) (f1 := (Tfrees f p k).2.2) (by rfl) hM73 hF73)
theorem w_X6_longestFree {l : Launch} {G : kG} {h : kAH} {o g r : Nat} {c : Int} {f : Nat → Int} (hl : l.stackTraces = false) (hM : kMd G h o g r c (-1) (-1) f) (hW : kWf f) (p k : Int) (rp : -2147483648 ≤ p ∧ p < 2147483648) (rk : -2147483648 ≤ k ∧ k < 2147483648) : kC l G m_X6_longestFree 7 0 0 [.ref o, .int (iI p), .int (iI k)] h (kMt G o g r (TlongestFree f p k) h) kNo := by
  have hwm : -1 ≤ (-1 : Int) ∧ (-1 : Int) < 8 := by decide
  have hwd : -1 ≤ (-1 : Int) ∧ (-1 : Int) < 6 := by decide
  have h8 := kWf_cnt hW
  have h9 := kWf_nxt hW
  refine kC_of hl rfl rfl (Nat.le_of_ble_eq_true rfl) (L := [some (.ref o), some (.int (iI p)), some (.int (iI k)), none, none, none]) rfl ?_
  refine k_aload_n (pc1 := 1) dX6_longestFree_0 rfl rfl ?_
  refine k_iload_n (pc1 := 2) dX6_longestFree_1 rfl rfl ?_
  refine k_callSP dX6_longestFree_2 rfl lk_RX6_74 o_X6_isPerson (w_X6_isPerson hl p (by omega)) (as := [.int (iI p)]) rfl rfl rfl (by decide) (by decide) (k8 rfl) ?_
  refine k_if_eq (a := kB (0 ≤ p ∧ p ≤ 5)) dX6_longestFree_5 rfl (tgt := 19) rfl (kB_r _) (fun c5 : kB (0 ≤ p ∧ p ≤ 5) = 0 => ?_) (fun c5 : kB (0 ≤ p ∧ p ≤ 5) ≠ 0 => ?_)
  · replace c5 : ¬(0 ≤ p ∧ p ≤ 5) := kB_z.mp c5
    refine k_iconst (pc1 := 20) dX6_longestFree_19 rfl ?_
    refine k_callVM (c' := 1) (wm' := (-1)) (wd' := (-1)) (f' := f) (v := .int (iI 1)) dX6_longestFree_20 rfl lk_RX6_34 o_X6_fails hM (w_X6_failsT hl hM (by decide)) (as := [.int (iI 1)]) rfl rfl rfl (by decide) (by decide) (k8 rfl) (fun h74 hM74 hX74 => ?_)
    have hF74 := kFm_tr (kFm_rf o g r h) hX74
    refine k_if_eq (a := 1) dX6_longestFree_23 rfl (tgt := 28) rfl (by decide) (fun c => absurd c (by decide)) (fun _ => ?_)
    refine k_iconst (pc1 := 27) dX6_longestFree_26 rfl ?_
    exact k_iret dX6_longestFree_27 rfl rfl (kMt_mk (c1 := 1) (v1 := 0) (f1 := f) (by first | exact kI_t (by first | omega | assumption) | exact kI_f (by first | omega | assumption)) hM74 hF74)
  · replace c5 : (0 ≤ p ∧ p ≤ 5) := kB_nz.mp c5
    refine k_iload_n (pc1 := 9) dX6_longestFree_8 rfl rfl ?_
    refine k_callSP dX6_longestFree_9 rfl lk_RX6_77 o_X6_isDay (w_X6_isDay hl k (by omega)) (as := [.int (iI k)]) rfl rfl rfl (by decide) (by decide) (k8 rfl) ?_
    refine k_if_eq (a := kB (0 ≤ k ∧ k ≤ 27)) dX6_longestFree_12 rfl (tgt := 19) rfl (kB_r _) (fun c12 : kB (0 ≤ k ∧ k ≤ 27) = 0 => ?_) (fun c12 : kB (0 ≤ k ∧ k ≤ 27) ≠ 0 => ?_)
    · replace c12 : ¬(0 ≤ k ∧ k ≤ 27) := kB_z.mp c12
      refine k_iconst (pc1 := 20) dX6_longestFree_19 rfl ?_
      refine k_callVM (c' := 1) (wm' := (-1)) (wd' := (-1)) (f' := f) (v := .int (iI 1)) dX6_longestFree_20 rfl lk_RX6_34 o_X6_fails hM (w_X6_failsT hl hM (by decide)) (as := [.int (iI 1)]) rfl rfl rfl (by decide) (by decide) (k8 rfl) (fun h75 hM75 hX75 => ?_)
      have hF75 := kFm_tr (kFm_rf o g r h) hX75
      refine k_if_eq (a := 1) dX6_longestFree_23 rfl (tgt := 28) rfl (by decide) (fun c => absurd c (by decide)) (fun _ => ?_)
      refine k_iconst (pc1 := 27) dX6_longestFree_26 rfl ?_
      exact k_iret dX6_longestFree_27 rfl rfl (kMt_mk (c1 := 1) (v1 := 0) (f1 := f) (by first | exact kI_t (by first | omega | assumption) | exact kI_f (by first | omega | assumption)) hM75 hF75)
    · replace c12 : (0 ≤ k ∧ k ≤ 27) := kB_nz.mp c12
      refine k_iconst (pc1 := 16) dX6_longestFree_15 rfl ?_
      refine k_goto dX6_longestFree_16 (tgt := 20) rfl ?_
      refine k_callVM (c' := 0) (wm' := (-1)) (wd' := (-1)) (f' := f) (v := .int (iI 0)) dX6_longestFree_20 rfl lk_RX6_34 o_X6_fails hM (w_X6_failsF hl hM) (as := [.int (iI 0)]) rfl rfl rfl (by decide) (by decide) (k8 rfl) (fun h76 hM76 hX76 => ?_)
      have hF76 := kFm_tr (kFm_rf o g r h) hX76
      refine k_if_eq (a := 0) dX6_longestFree_23 rfl (tgt := 28) rfl (by decide) (fun _ => ?_) (fun c => absurd c (by decide))
      refine k_iconst (pc1 := 29) dX6_longestFree_28 rfl ?_
      refine k_istore_n (pc1 := 30) dX6_longestFree_29 rfl (by decide) (k_loc (L' := [some (.ref o), some (.int (iI p)), some (.int (iI k)), some (.int (iI 0)), none, none]) rfl ?_)
      refine k_iconst (pc1 := 31) dX6_longestFree_30 rfl ?_
      refine k_istore (pc1 := 33) dX6_longestFree_31 rfl (by decide) (k_loc (L' := [some (.ref o), some (.int (iI p)), some (.int (iI k)), some (.int (iI 0)), some (.int (iI 0)), none]) rfl ?_)
      refine k_iconst (pc1 := 34) dX6_longestFree_33 rfl ?_
      refine k_istore (pc1 := 36) dX6_longestFree_34 rfl (by decide) (k_loc (L' := [some (.ref o), some (.int (iI p)), some (.int (iI k)), some (.int (iI 0)), some (.int (iI 0)), some (.int (iI 0))]) rfl ?_)
      have hloop36 : ∀ (zz : Nat) (i : Nat), zz = 16 - i → (i ≤ 16) → kW l G m_X6_longestFree 7 (kMt G o g r (TlongestFree f p k) h) kNo 0 0 36 [some (.ref o), some (.int (iI p)), some (.int (iI k)), some (.int (iI (lgB (fun t => frF f p k (t : Int)) i))), some (.int (iI (lgN (fun t => frF f p k (t : Int)) i))), some (.int (iI ((i : Nat) : Int)))] [] h76 := by
        intro zz
        induction zz using Nat.strongRecOn with
        | ind zz ih36 =>
        intro i hr36 hi
        refine k_iload (pc1 := 38) dX6_longestFree_36 rfl rfl ?_
        refine k_bipush 16 (pc1 := 40) dX6_longestFree_38 rfl (by decide) ?_
        refine k_icmp_ge (a := ((i : Nat) : Int)) (b := 16) dX6_longestFree_40 rfl (tgt := 83) rfl (by omega) (by decide) (fun c40 : 16 ≤ ((i : Nat) : Int) => ?_) (fun c40 : ((i : Nat) : Int) < 16 => ?_)
        · skip
          refine k_iload_n (pc1 := 84) dX6_longestFree_83 rfl rfl ?_
          exact k_iret dX6_longestFree_84 rfl rfl (kMt_mk (c1 := 0) (v1 := (lgB (fun t => frF f p k (t : Int)) i)) (f1 := f) (by have e : i = 16 := (by omega); subst e; exact kI_t (by omega)) hM76 hF76)
        · skip
          refine k_aload_n (pc1 := 44) dX6_longestFree_43 rfl rfl ?_
          refine k_iload_n (pc1 := 45) dX6_longestFree_44 rfl rfl ?_
          refine k_iload_n (pc1 := 46) dX6_longestFree_45 rfl rfl ?_
          refine k_iload (pc1 := 48) dX6_longestFree_46 rfl rfl ?_
          refine k_callVP dX6_longestFree_48 rfl lk_RX6_117 o_X6_isFreeAt (w_X6_isFreeAt hl hM76 p k ((i : Nat) : Int) hW ⟨by omega, by omega⟩ ⟨by omega, by omega⟩ ⟨by omega, by omega⟩ ) (as := [.int (iI p), .int (iI k), .int (iI ((i : Nat) : Int))]) hM76.1 rfl rfl rfl rfl (by decide) (by decide) (k8 rfl) ?_
          refine k_if_eq (a := kB (frF f p k ((i : Nat) : Int))) dX6_longestFree_51 rfl (tgt := 61) rfl (kB_r _) (fun c51 : kB (frF f p k ((i : Nat) : Int)) = 0 => ?_) (fun c51 : kB (frF f p k ((i : Nat) : Int)) ≠ 0 => ?_)
          · replace c51 : ¬(frF f p k ((i : Nat) : Int)) := kB_z.mp c51
            refine k_iconst (pc1 := 62) dX6_longestFree_61 rfl ?_
            refine k_istore (pc1 := 64) dX6_longestFree_62 rfl (by decide) (k_loc (L' := [some (.ref o), some (.int (iI p)), some (.int (iI k)), some (.int (iI (lgB (fun t => frF f p k (t : Int)) i))), some (.int (iI 0)), some (.int (iI ((i : Nat) : Int)))]) rfl ?_)
            have e4 : (lgN (fun t => frF f p k (t : Int)) (i + 1)) = 0 := kI_f c51
            refine k_loc (L' := [some (.ref o), some (.int (iI p)), some (.int (iI k)), some (.int (iI (lgB (fun t => frF f p k (t : Int)) i))), some (.int (iI (lgN (fun t => frF f p k (t : Int)) (i + 1)))), some (.int (iI ((i : Nat) : Int)))]) (by rw [e4]) ?_
            have hlr := lgN_r (fun t => frF f p k (t : Int)) (i + 1)
            have hbr := lgB_r (fun t => frF f p k (t : Int)) i
            refine k_iload (pc1 := 66) dX6_longestFree_64 rfl rfl ?_
            refine k_iload_n (pc1 := 67) dX6_longestFree_66 rfl rfl ?_
            refine k_icmp_le (a := (lgN (fun t => frF f p k (t : Int)) (i + 1))) (b := (lgB (fun t => frF f p k (t : Int)) i)) dX6_longestFree_67 rfl (tgt := 75) rfl (by omega) (by omega) (fun c67 : (lgN (fun t => frF f p k (t : Int)) (i + 1)) ≤ (lgB (fun t => frF f p k (t : Int)) i) => ?_) (fun c67 : (lgB (fun t => frF f p k (t : Int)) i) < (lgN (fun t => frF f p k (t : Int)) (i + 1)) => ?_)
            · skip
              refine k_iload_n (pc1 := 76) dX6_longestFree_75 rfl rfl ?_
              refine k_istore_n (pc1 := 77) dX6_longestFree_76 rfl (by decide) (k_loc (L' := [some (.ref o), some (.int (iI p)), some (.int (iI k)), some (.int (iI (lgB (fun t => frF f p k (t : Int)) i))), some (.int (iI (lgN (fun t => frF f p k (t : Int)) (i + 1)))), some (.int (iI ((i : Nat) : Int)))]) rfl ?_)
              refine k_iinc (a := ((i : Nat) : Int)) (pc1 := 80) dX6_longestFree_77 rfl rfl (by decide) (k_loc (L' := [some (.ref o), some (.int (iI p)), some (.int (iI k)), some (.int (iI (lgB (fun t => frF f p k (t : Int)) i))), some (.int (iI (lgN (fun t => frF f p k (t : Int)) (i + 1)))), some (.int (iI (((i : Nat) : Int) + 1)))]) rfl ?_)
              refine k_goto dX6_longestFree_80 (tgt := 36) rfl ?_
              have e3 : (lgB (fun t => frF f p k (t : Int)) (i + 1)) = (lgB (fun t => frF f p k (t : Int)) i) := kI_f (by omega)
              refine k_loc (L' := [some (.ref o), some (.int (iI p)), some (.int (iI k)), some (.int (iI (lgB (fun t => frF f p k (t : Int)) (i + 1)))), some (.int (iI (lgN (fun t => frF f p k (t : Int)) (i + 1)))), some (.int (iI (((i : Nat) : Int) + 1)))]) (by rw [e3]) ?_
              exact ih36 _ (by omega) (i + 1) rfl (by omega)
            · skip
              refine k_iload (pc1 := 72) dX6_longestFree_70 rfl rfl ?_
              refine k_goto dX6_longestFree_72 (tgt := 76) rfl ?_
              refine k_istore_n (pc1 := 77) dX6_longestFree_76 rfl (by decide) (k_loc (L' := [some (.ref o), some (.int (iI p)), some (.int (iI k)), some (.int (iI (lgN (fun t => frF f p k (t : Int)) (i + 1)))), some (.int (iI (lgN (fun t => frF f p k (t : Int)) (i + 1)))), some (.int (iI ((i : Nat) : Int)))]) rfl ?_)
              refine k_iinc (a := ((i : Nat) : Int)) (pc1 := 80) dX6_longestFree_77 rfl rfl (by decide) (k_loc (L' := [some (.ref o), some (.int (iI p)), some (.int (iI k)), some (.int (iI (lgN (fun t => frF f p k (t : Int)) (i + 1)))), some (.int (iI (lgN (fun t => frF f p k (t : Int)) (i + 1)))), some (.int (iI (((i : Nat) : Int) + 1)))]) rfl ?_)
              refine k_goto dX6_longestFree_80 (tgt := 36) rfl ?_
              have e3 : (lgB (fun t => frF f p k (t : Int)) (i + 1)) = (lgN (fun t => frF f p k (t : Int)) (i + 1)) := kI_t c67
              refine k_loc (L' := [some (.ref o), some (.int (iI p)), some (.int (iI k)), some (.int (iI (lgB (fun t => frF f p k (t : Int)) (i + 1)))), some (.int (iI (lgN (fun t => frF f p k (t : Int)) (i + 1)))), some (.int (iI (((i : Nat) : Int) + 1)))]) (by rw [e3]) ?_
              exact ih36 _ (by omega) (i + 1) rfl (by omega)
          · replace c51 : (frF f p k ((i : Nat) : Int)) := kB_nz.mp c51
            refine k_iload (pc1 := 56) dX6_longestFree_54 rfl rfl ?_
            refine k_iconst (pc1 := 57) dX6_longestFree_56 rfl ?_
            refine k_iadd (a := (lgN (fun t => frF f p k (t : Int)) i)) (b := 1) (pc1 := 58) dX6_longestFree_57 rfl ?_
            refine k_goto dX6_longestFree_58 (tgt := 62) rfl ?_
            refine k_istore (pc1 := 64) dX6_longestFree_62 rfl (by decide) (k_loc (L' := [some (.ref o), some (.int (iI p)), some (.int (iI k)), some (.int (iI (lgB (fun t => frF f p k (t : Int)) i))), some (.int (iI ((lgN (fun t => frF f p k (t : Int)) i) + 1))), some (.int (iI ((i : Nat) : Int)))]) rfl ?_)
            have e4 : (lgN (fun t => frF f p k (t : Int)) (i + 1)) = ((lgN (fun t => frF f p k (t : Int)) i) + 1) := kI_t c51
            refine k_loc (L' := [some (.ref o), some (.int (iI p)), some (.int (iI k)), some (.int (iI (lgB (fun t => frF f p k (t : Int)) i))), some (.int (iI (lgN (fun t => frF f p k (t : Int)) (i + 1)))), some (.int (iI ((i : Nat) : Int)))]) (by rw [e4]) ?_
            have hlr := lgN_r (fun t => frF f p k (t : Int)) (i + 1)
            have hbr := lgB_r (fun t => frF f p k (t : Int)) i
            refine k_iload (pc1 := 66) dX6_longestFree_64 rfl rfl ?_
            refine k_iload_n (pc1 := 67) dX6_longestFree_66 rfl rfl ?_
            refine k_icmp_le (a := (lgN (fun t => frF f p k (t : Int)) (i + 1))) (b := (lgB (fun t => frF f p k (t : Int)) i)) dX6_longestFree_67 rfl (tgt := 75) rfl (by omega) (by omega) (fun c67 : (lgN (fun t => frF f p k (t : Int)) (i + 1)) ≤ (lgB (fun t => frF f p k (t : Int)) i) => ?_) (fun c67 : (lgB (fun t => frF f p k (t : Int)) i) < (lgN (fun t => frF f p k (t : Int)) (i + 1)) => ?_)
            · skip
              refine k_iload_n (pc1 := 76) dX6_longestFree_75 rfl rfl ?_
              refine k_istore_n (pc1 := 77) dX6_longestFree_76 rfl (by decide) (k_loc (L' := [some (.ref o), some (.int (iI p)), some (.int (iI k)), some (.int (iI (lgB (fun t => frF f p k (t : Int)) i))), some (.int (iI (lgN (fun t => frF f p k (t : Int)) (i + 1)))), some (.int (iI ((i : Nat) : Int)))]) rfl ?_)
              refine k_iinc (a := ((i : Nat) : Int)) (pc1 := 80) dX6_longestFree_77 rfl rfl (by decide) (k_loc (L' := [some (.ref o), some (.int (iI p)), some (.int (iI k)), some (.int (iI (lgB (fun t => frF f p k (t : Int)) i))), some (.int (iI (lgN (fun t => frF f p k (t : Int)) (i + 1)))), some (.int (iI (((i : Nat) : Int) + 1)))]) rfl ?_)
              refine k_goto dX6_longestFree_80 (tgt := 36) rfl ?_
              have e3 : (lgB (fun t => frF f p k (t : Int)) (i + 1)) = (lgB (fun t => frF f p k (t : Int)) i) := kI_f (by omega)
              refine k_loc (L' := [some (.ref o), some (.int (iI p)), some (.int (iI k)), some (.int (iI (lgB (fun t => frF f p k (t : Int)) (i + 1)))), some (.int (iI (lgN (fun t => frF f p k (t : Int)) (i + 1)))), some (.int (iI (((i : Nat) : Int) + 1)))]) (by rw [e3]) ?_
              exact ih36 _ (by omega) (i + 1) rfl (by omega)
            · skip
              refine k_iload (pc1 := 72) dX6_longestFree_70 rfl rfl ?_
              refine k_goto dX6_longestFree_72 (tgt := 76) rfl ?_
              refine k_istore_n (pc1 := 77) dX6_longestFree_76 rfl (by decide) (k_loc (L' := [some (.ref o), some (.int (iI p)), some (.int (iI k)), some (.int (iI (lgN (fun t => frF f p k (t : Int)) (i + 1)))), some (.int (iI (lgN (fun t => frF f p k (t : Int)) (i + 1)))), some (.int (iI ((i : Nat) : Int)))]) rfl ?_)
              refine k_iinc (a := ((i : Nat) : Int)) (pc1 := 80) dX6_longestFree_77 rfl rfl (by decide) (k_loc (L' := [some (.ref o), some (.int (iI p)), some (.int (iI k)), some (.int (iI (lgN (fun t => frF f p k (t : Int)) (i + 1)))), some (.int (iI (lgN (fun t => frF f p k (t : Int)) (i + 1)))), some (.int (iI (((i : Nat) : Int) + 1)))]) rfl ?_)
              refine k_goto dX6_longestFree_80 (tgt := 36) rfl ?_
              have e3 : (lgB (fun t => frF f p k (t : Int)) (i + 1)) = (lgN (fun t => frF f p k (t : Int)) (i + 1)) := kI_t c67
              refine k_loc (L' := [some (.ref o), some (.int (iI p)), some (.int (iI k)), some (.int (iI (lgB (fun t => frF f p k (t : Int)) (i + 1)))), some (.int (iI (lgN (fun t => frF f p k (t : Int)) (i + 1)))), some (.int (iI (((i : Nat) : Int) + 1)))]) (by rw [e3]) ?_
              exact ih36 _ (by omega) (i + 1) rfl (by omega)
      exact hloop36 _ 0 rfl (by omega)
theorem w_X6_isNoPlanT {l : Launch} {G : kG} {h : kAH} {o g r : Nat} {c : Int} {f : Nat → Int} (hl : l.stackTraces = false) (hM : kMd G h o g r c (-1) (-1) f) (hW : kWf f) {a n k : Int} (ra : -2147483648 ≤ a ∧ a < 2147483648) (rn : -2147483648 ≤ n ∧ n < 2147483648) (rk : -2147483648 ≤ k ∧ k < 2147483648) (hc : ¬ (1 ≤ a ∧ a ≤ 63 ∧ 1 ≤ n ∧ n ≤ 6 ∧ 0 ≤ k ∧ k ≤ 27)) : kC l G m_X6_isNoPlan 3 0 0 [.ref o, .int (iI a), .int (iI n), .int (iI k)] h (kMq G o g r (some (.int (iI 1))) 1 (-1) (-1) f h) kNo := by
  refine kC_of hl rfl rfl (Nat.le_of_ble_eq_true rfl) (L := [some (.ref o), some (.int (iI a)), some (.int (iI n)), some (.int (iI k))]) rfl ?_
  refine k_aload_n (pc1 := 1) dX6_isNoPlan_0 rfl rfl ?_
  refine k_iload_n (pc1 := 2) dX6_isNoPlan_1 rfl rfl ?_
  refine k_iconst (pc1 := 3) dX6_isNoPlan_2 rfl ?_
  refine k_bipush 63 (pc1 := 5) dX6_isNoPlan_3 rfl (by decide) ?_
  refine k_callSP dX6_isNoPlan_5 rfl lk_RX6_26 o_X6_in (w_X6_in hl a 1 63 (by omega) (by decide) (by decide)) (as := [.int (iI a), .int (iI 1), .int (iI 63)]) rfl rfl rfl (by decide) (by decide) (k8 rfl) ?_
  refine k_if_eq (a := kB (1 ≤ a ∧ a ≤ 63)) dX6_isNoPlan_8 rfl (tgt := 32) rfl (kB_r _) (fun c8 : kB (1 ≤ a ∧ a ≤ 63) = 0 => ?_) (fun c8 : kB (1 ≤ a ∧ a ≤ 63) ≠ 0 => ?_)
  · replace c8 : ¬(1 ≤ a ∧ a ≤ 63) := kB_z.mp c8
    refine k_iconst (pc1 := 33) dX6_isNoPlan_32 rfl ?_
    refine k_callVM (c' := 1) (wm' := (-1)) (wd' := (-1)) (f' := f) (v := .int (iI 1)) dX6_isNoPlan_33 rfl lk_RX6_34 o_X6_fails hM (w_X6_failsT hl hM (by decide)) (as := [.int (iI 1)]) rfl rfl rfl (by decide) (by decide) (k8 rfl) (fun h77 hM77 hX77 => ?_)
    have hF77 := kFm_tr (kFm_rf o g r h) hX77
    first | exact k_iret dX6_isNoPlan_36 rfl rfl ⟨rfl, hM77, hF77⟩ | exact absurd rfl (by first | omega | assumption) | (exfalso; omega)
  · replace c8 : (1 ≤ a ∧ a ≤ 63) := kB_nz.mp c8
    refine k_iload_n (pc1 := 12) dX6_isNoPlan_11 rfl rfl ?_
    refine k_iconst (pc1 := 13) dX6_isNoPlan_12 rfl ?_
    refine k_bipush 6 (pc1 := 15) dX6_isNoPlan_13 rfl (by decide) ?_
    refine k_callSP dX6_isNoPlan_15 rfl lk_RX6_26 o_X6_in (w_X6_in hl n 1 6 (by omega) (by decide) (by decide)) (as := [.int (iI n), .int (iI 1), .int (iI 6)]) rfl rfl rfl (by decide) (by decide) (k8 rfl) ?_
    refine k_if_eq (a := kB (1 ≤ n ∧ n ≤ 6)) dX6_isNoPlan_18 rfl (tgt := 32) rfl (kB_r _) (fun c18 : kB (1 ≤ n ∧ n ≤ 6) = 0 => ?_) (fun c18 : kB (1 ≤ n ∧ n ≤ 6) ≠ 0 => ?_)
    · replace c18 : ¬(1 ≤ n ∧ n ≤ 6) := kB_z.mp c18
      refine k_iconst (pc1 := 33) dX6_isNoPlan_32 rfl ?_
      refine k_callVM (c' := 1) (wm' := (-1)) (wd' := (-1)) (f' := f) (v := .int (iI 1)) dX6_isNoPlan_33 rfl lk_RX6_34 o_X6_fails hM (w_X6_failsT hl hM (by decide)) (as := [.int (iI 1)]) rfl rfl rfl (by decide) (by decide) (k8 rfl) (fun h78 hM78 hX78 => ?_)
      have hF78 := kFm_tr (kFm_rf o g r h) hX78
      first | exact k_iret dX6_isNoPlan_36 rfl rfl ⟨rfl, hM78, hF78⟩ | exact absurd rfl (by first | omega | assumption) | (exfalso; omega)
    · replace c18 : (1 ≤ n ∧ n ≤ 6) := kB_nz.mp c18
      refine k_iload_n (pc1 := 22) dX6_isNoPlan_21 rfl rfl ?_
      refine k_callSP dX6_isNoPlan_22 rfl lk_RX6_77 o_X6_isDay (w_X6_isDay hl k (by omega)) (as := [.int (iI k)]) rfl rfl rfl (by decide) (by decide) (k8 rfl) ?_
      refine k_if_eq (a := kB (0 ≤ k ∧ k ≤ 27)) dX6_isNoPlan_25 rfl (tgt := 32) rfl (kB_r _) (fun c25 : kB (0 ≤ k ∧ k ≤ 27) = 0 => ?_) (fun c25 : kB (0 ≤ k ∧ k ≤ 27) ≠ 0 => ?_)
      · replace c25 : ¬(0 ≤ k ∧ k ≤ 27) := kB_z.mp c25
        refine k_iconst (pc1 := 33) dX6_isNoPlan_32 rfl ?_
        refine k_callVM (c' := 1) (wm' := (-1)) (wd' := (-1)) (f' := f) (v := .int (iI 1)) dX6_isNoPlan_33 rfl lk_RX6_34 o_X6_fails hM (w_X6_failsT hl hM (by decide)) (as := [.int (iI 1)]) rfl rfl rfl (by decide) (by decide) (k8 rfl) (fun h79 hM79 hX79 => ?_)
        have hF79 := kFm_tr (kFm_rf o g r h) hX79
        first | exact k_iret dX6_isNoPlan_36 rfl rfl ⟨rfl, hM79, hF79⟩ | exact absurd rfl (by first | omega | assumption) | (exfalso; omega)
      · replace c25 : (0 ≤ k ∧ k ≤ 27) := kB_nz.mp c25
        refine k_iconst (pc1 := 29) dX6_isNoPlan_28 rfl ?_
        refine k_goto dX6_isNoPlan_29 (tgt := 33) rfl ?_
        refine k_callVM (c' := 0) (wm' := (-1)) (wd' := (-1)) (f' := f) (v := .int (iI 0)) dX6_isNoPlan_33 rfl lk_RX6_34 o_X6_fails hM (w_X6_failsF hl hM) (as := [.int (iI 0)]) rfl rfl rfl (by decide) (by decide) (k8 rfl) (fun h80 hM80 hX80 => ?_)
        have hF80 := kFm_tr (kFm_rf o g r h) hX80
        first | exact k_iret dX6_isNoPlan_36 rfl rfl ⟨rfl, hM80, hF80⟩ | exact absurd rfl (by first | omega | assumption) | (exfalso; omega)
theorem w_X6_isNoPlanF {l : Launch} {G : kG} {h : kAH} {o g r : Nat} {c : Int} {f : Nat → Int} (hl : l.stackTraces = false) (hM : kMd G h o g r c (-1) (-1) f) (hW : kWf f) {a n k : Int} (ra : -2147483648 ≤ a ∧ a < 2147483648) (rn : -2147483648 ≤ n ∧ n < 2147483648) (rk : -2147483648 ≤ k ∧ k < 2147483648) (hc : (1 ≤ a ∧ a ≤ 63 ∧ 1 ≤ n ∧ n ≤ 6 ∧ 0 ≤ k ∧ k ≤ 27)) : kC l G m_X6_isNoPlan 3 0 0 [.ref o, .int (iI a), .int (iI n), .int (iI k)] h (kMq G o g r (some (.int (iI 0))) 0 (-1) (-1) f h) kNo := by
  refine kC_of hl rfl rfl (Nat.le_of_ble_eq_true rfl) (L := [some (.ref o), some (.int (iI a)), some (.int (iI n)), some (.int (iI k))]) rfl ?_
  refine k_aload_n (pc1 := 1) dX6_isNoPlan_0 rfl rfl ?_
  refine k_iload_n (pc1 := 2) dX6_isNoPlan_1 rfl rfl ?_
  refine k_iconst (pc1 := 3) dX6_isNoPlan_2 rfl ?_
  refine k_bipush 63 (pc1 := 5) dX6_isNoPlan_3 rfl (by decide) ?_
  refine k_callSP dX6_isNoPlan_5 rfl lk_RX6_26 o_X6_in (w_X6_in hl a 1 63 (by omega) (by decide) (by decide)) (as := [.int (iI a), .int (iI 1), .int (iI 63)]) rfl rfl rfl (by decide) (by decide) (k8 rfl) ?_
  refine k_if_eq (a := kB (1 ≤ a ∧ a ≤ 63)) dX6_isNoPlan_8 rfl (tgt := 32) rfl (kB_r _) (fun c8 : kB (1 ≤ a ∧ a ≤ 63) = 0 => ?_) (fun c8 : kB (1 ≤ a ∧ a ≤ 63) ≠ 0 => ?_)
  · replace c8 : ¬(1 ≤ a ∧ a ≤ 63) := kB_z.mp c8
    refine k_iconst (pc1 := 33) dX6_isNoPlan_32 rfl ?_
    refine k_callVM (c' := 1) (wm' := (-1)) (wd' := (-1)) (f' := f) (v := .int (iI 1)) dX6_isNoPlan_33 rfl lk_RX6_34 o_X6_fails hM (w_X6_failsT hl hM (by decide)) (as := [.int (iI 1)]) rfl rfl rfl (by decide) (by decide) (k8 rfl) (fun h81 hM81 hX81 => ?_)
    have hF81 := kFm_tr (kFm_rf o g r h) hX81
    first | exact k_iret dX6_isNoPlan_36 rfl rfl ⟨rfl, hM81, hF81⟩ | exact absurd rfl (by first | omega | assumption) | (exfalso; omega)
  · replace c8 : (1 ≤ a ∧ a ≤ 63) := kB_nz.mp c8
    refine k_iload_n (pc1 := 12) dX6_isNoPlan_11 rfl rfl ?_
    refine k_iconst (pc1 := 13) dX6_isNoPlan_12 rfl ?_
    refine k_bipush 6 (pc1 := 15) dX6_isNoPlan_13 rfl (by decide) ?_
    refine k_callSP dX6_isNoPlan_15 rfl lk_RX6_26 o_X6_in (w_X6_in hl n 1 6 (by omega) (by decide) (by decide)) (as := [.int (iI n), .int (iI 1), .int (iI 6)]) rfl rfl rfl (by decide) (by decide) (k8 rfl) ?_
    refine k_if_eq (a := kB (1 ≤ n ∧ n ≤ 6)) dX6_isNoPlan_18 rfl (tgt := 32) rfl (kB_r _) (fun c18 : kB (1 ≤ n ∧ n ≤ 6) = 0 => ?_) (fun c18 : kB (1 ≤ n ∧ n ≤ 6) ≠ 0 => ?_)
    · replace c18 : ¬(1 ≤ n ∧ n ≤ 6) := kB_z.mp c18
      refine k_iconst (pc1 := 33) dX6_isNoPlan_32 rfl ?_
      refine k_callVM (c' := 1) (wm' := (-1)) (wd' := (-1)) (f' := f) (v := .int (iI 1)) dX6_isNoPlan_33 rfl lk_RX6_34 o_X6_fails hM (w_X6_failsT hl hM (by decide)) (as := [.int (iI 1)]) rfl rfl rfl (by decide) (by decide) (k8 rfl) (fun h82 hM82 hX82 => ?_)
      have hF82 := kFm_tr (kFm_rf o g r h) hX82
      first | exact k_iret dX6_isNoPlan_36 rfl rfl ⟨rfl, hM82, hF82⟩ | exact absurd rfl (by first | omega | assumption) | (exfalso; omega)
    · replace c18 : (1 ≤ n ∧ n ≤ 6) := kB_nz.mp c18
      refine k_iload_n (pc1 := 22) dX6_isNoPlan_21 rfl rfl ?_
      refine k_callSP dX6_isNoPlan_22 rfl lk_RX6_77 o_X6_isDay (w_X6_isDay hl k (by omega)) (as := [.int (iI k)]) rfl rfl rfl (by decide) (by decide) (k8 rfl) ?_
      refine k_if_eq (a := kB (0 ≤ k ∧ k ≤ 27)) dX6_isNoPlan_25 rfl (tgt := 32) rfl (kB_r _) (fun c25 : kB (0 ≤ k ∧ k ≤ 27) = 0 => ?_) (fun c25 : kB (0 ≤ k ∧ k ≤ 27) ≠ 0 => ?_)
      · replace c25 : ¬(0 ≤ k ∧ k ≤ 27) := kB_z.mp c25
        refine k_iconst (pc1 := 33) dX6_isNoPlan_32 rfl ?_
        refine k_callVM (c' := 1) (wm' := (-1)) (wd' := (-1)) (f' := f) (v := .int (iI 1)) dX6_isNoPlan_33 rfl lk_RX6_34 o_X6_fails hM (w_X6_failsT hl hM (by decide)) (as := [.int (iI 1)]) rfl rfl rfl (by decide) (by decide) (k8 rfl) (fun h83 hM83 hX83 => ?_)
        have hF83 := kFm_tr (kFm_rf o g r h) hX83
        first | exact k_iret dX6_isNoPlan_36 rfl rfl ⟨rfl, hM83, hF83⟩ | exact absurd rfl (by first | omega | assumption) | (exfalso; omega)
      · replace c25 : (0 ≤ k ∧ k ≤ 27) := kB_nz.mp c25
        refine k_iconst (pc1 := 29) dX6_isNoPlan_28 rfl ?_
        refine k_goto dX6_isNoPlan_29 (tgt := 33) rfl ?_
        refine k_callVM (c' := 0) (wm' := (-1)) (wd' := (-1)) (f' := f) (v := .int (iI 0)) dX6_isNoPlan_33 rfl lk_RX6_34 o_X6_fails hM (w_X6_failsF hl hM) (as := [.int (iI 0)]) rfl rfl rfl (by decide) (by decide) (k8 rfl) (fun h84 hM84 hX84 => ?_)
        have hF84 := kFm_tr (kFm_rf o g r h) hX84
        first | exact k_iret dX6_isNoPlan_36 rfl rfl ⟨rfl, hM84, hF84⟩ | exact absurd rfl (by first | omega | assumption) | (exfalso; omega)
theorem w_X6_firstCommon {l : Launch} {G : kG} {h : kAH} {o g r : Nat} {c : Int} {f : Nat → Int} (hl : l.stackTraces = false) (hM : kMd G h o g r c (-1) (-1) f) (hW : kWf f) (a n k : Int) (ra : -2147483648 ≤ a ∧ a < 2147483648) (rn : -2147483648 ≤ n ∧ n < 2147483648) (rk : -2147483648 ≤ k ∧ k < 2147483648) : kC l G m_X6_firstCommon 8 0 0 [.ref o, .int (iI a), .int (iI n), .int (iI k)] h (kMt G o g r (TfirstCommon f a n k) h) kNo := by
  have hwm : -1 ≤ (-1 : Int) ∧ (-1 : Int) < 8 := by decide
  have hwd : -1 ≤ (-1 : Int) ∧ (-1 : Int) < 6 := by decide
  have h8 := kWf_cnt hW
  have h9 := kWf_nxt hW
  refine kC_of hl rfl rfl (Nat.le_of_ble_eq_true rfl) (L := [some (.ref o), some (.int (iI a)), some (.int (iI n)), some (.int (iI k)), none, none]) rfl ?_
  refine k_aload_n (pc1 := 1) dX6_firstCommon_0 rfl rfl ?_
  refine k_iload_n (pc1 := 2) dX6_firstCommon_1 rfl rfl ?_
  refine k_iload_n (pc1 := 3) dX6_firstCommon_2 rfl rfl ?_
  refine k_iload_n (pc1 := 4) dX6_firstCommon_3 rfl rfl ?_
  by_cases hV0 : (1 ≤ a ∧ a ≤ 63 ∧ 1 ≤ n ∧ n ≤ 6 ∧ 0 ≤ k ∧ k ≤ 27)
  · skip
    refine k_callVM (c' := 0) (wm' := (-1)) (wd' := (-1)) (f' := f) (v := .int (iI 0)) dX6_firstCommon_4 rfl lk_RX6_123 o_X6_isNoPlan hM (w_X6_isNoPlanF hl hM hW ra rn rk hV0) (as := [.int (iI a), .int (iI n), .int (iI k)]) rfl rfl rfl (by decide) (by decide) (k8 rfl) (fun h85 hM85 hX85 => ?_)
    have hF85 := kFm_tr (kFm_rf o g r h) hX85
    have hq : a.toNat < 64 := by omega
    refine k_loc (L' := [some (.ref o), some (.int (iI ((a.toNat : Nat) : Int))), some (.int (iI n)), some (.int (iI k)), none, none]) (by rw [Int.toNat_of_nonneg (by omega)]) ?_
    refine k_if_eq (a := 0) dX6_firstCommon_7 rfl (tgt := 12) rfl (by decide) (fun _ => ?_) (fun c => absurd c (by decide))
    refine k_iload_n (pc1 := 13) dX6_firstCommon_12 rfl rfl ?_
    refine k_istore (pc1 := 15) dX6_firstCommon_13 rfl (by decide) (k_loc (L' := [some (.ref o), some (.int (iI ((a.toNat : Nat) : Int))), some (.int (iI n)), some (.int (iI k)), some (.int (iI k)), none]) rfl ?_)
    have hloop15 : ∀ (zz : Nat) (e : Int), zz = (28 - e).toNat → (k ≤ e) → (e ≤ 28) → (∀ x : Nat, (x : Int) < 16 * e + 0 → ¬ fcP f a.toNat n k x) → kW l G m_X6_firstCommon 8 (kMt G o g r (TfirstCommon f a n k) h) kNo 0 0 15 [some (.ref o), some (.int (iI ((a.toNat : Nat) : Int))), some (.int (iI n)), some (.int (iI k)), some (.int (iI e)), none] [] h85 := by
      intro zz
      induction zz using Nat.strongRecOn with
      | ind zz ih15 =>
      intro e hr15 hd0 hd1 hJ
      refine k_iload (pc1 := 17) dX6_firstCommon_15 rfl rfl ?_
      refine k_bipush 28 (pc1 := 19) dX6_firstCommon_17 rfl (by decide) ?_
      refine k_icmp_ge (a := e) (b := 28) dX6_firstCommon_19 rfl (tgt := 68) rfl (by omega) (by decide) (fun c19 : 28 ≤ e => ?_) (fun c19 : e < 28 => ?_)
      · skip
        refine k_aload_n (pc1 := 69) dX6_firstCommon_68 rfl rfl ?_
        refine k_iconst (pc1 := 70) dX6_firstCommon_69 rfl ?_
        refine k_putM1 (pc1 := 73) (x := 2) rfl dX6_firstCommon_70 rfl hM85 (fun h86 hM86 hX86 => ?_)
        have hF86 := kFm_tr hF85 hX86
        refine k_iconst (pc1 := 74) dX6_firstCommon_73 rfl ?_
        exact k_iret dX6_firstCommon_74 rfl rfl (kMt_mk (c1 := 2) (v1 := 0) (f1 := f) (by exact (kI_t hV0).trans (kI_t (fc_no (by omega) hJ))) hM86 hF86)
      · skip
        refine k_iconst (pc1 := 23) dX6_firstCommon_22 rfl ?_
        refine k_istore (pc1 := 25) dX6_firstCommon_23 rfl (by decide) (k_loc (L' := [some (.ref o), some (.int (iI ((a.toNat : Nat) : Int))), some (.int (iI n)), some (.int (iI k)), some (.int (iI e)), some (.int (iI 0))]) rfl ?_)
        have hloop25 : ∀ (zz : Nat) (t : Int), zz = (17 - t).toNat → (0 ≤ t) → (t ≤ 16) → (∀ x : Nat, (x : Int) < 16 * e + t → ¬ fcP f a.toNat n k x) → kW l G m_X6_firstCommon 8 (kMt G o g r (TfirstCommon f a n k) h) kNo 0 0 25 [some (.ref o), some (.int (iI ((a.toNat : Nat) : Int))), some (.int (iI n)), some (.int (iI k)), some (.int (iI e)), some (.int (iI t))] [] h85 := by
          intro zz
          induction zz using Nat.strongRecOn with
          | ind zz ih25 =>
          intro t hr25 ht0 ht1 hJ
          refine k_iload (pc1 := 27) dX6_firstCommon_25 rfl rfl ?_
          refine k_iload_n (pc1 := 28) dX6_firstCommon_27 rfl rfl ?_
          refine k_iadd (a := t) (b := n) (pc1 := 29) dX6_firstCommon_28 rfl ?_
          refine k_bipush 16 (pc1 := 31) dX6_firstCommon_29 rfl (by decide) ?_
          refine k_icmp_gt (a := (t + n)) (b := 16) dX6_firstCommon_31 rfl (tgt := 62) rfl (by omega) (by decide) (fun c31 : 16 < (t + n) => ?_) (fun c31 : (t + n) ≤ 16 => ?_)
          · skip
            refine k_iinc (a := e) (pc1 := 65) dX6_firstCommon_62 rfl rfl (by decide) (k_loc (L' := [some (.ref o), some (.int (iI ((a.toNat : Nat) : Int))), some (.int (iI n)), some (.int (iI k)), some (.int (iI (e + 1))), some (.int (iI t))]) rfl ?_)
            refine k_goto dX6_firstCommon_65 (tgt := 15) rfl ?_
            refine k_forget 5 (k_loc (L' := [some (.ref o), some (.int (iI ((a.toNat : Nat) : Int))), some (.int (iI n)), some (.int (iI k)), some (.int (iI (e + 1))), none]) rfl ?_)
            exact ih15 _ (by omega) (e + 1) rfl (by omega) (by omega) (fc_n (by omega) ⟨by omega, by omega, by omega⟩ hJ)
          · skip
            refine k_aload_n (pc1 := 35) dX6_firstCommon_34 rfl rfl ?_
            refine k_iload_n (pc1 := 36) dX6_firstCommon_35 rfl rfl ?_
            refine k_iload_n (pc1 := 37) dX6_firstCommon_36 rfl rfl ?_
            refine k_iload (pc1 := 39) dX6_firstCommon_37 rfl rfl ?_
            refine k_iload (pc1 := 41) dX6_firstCommon_39 rfl rfl ?_
            refine k_callVP dX6_firstCommon_41 rfl lk_RX6_126 o_X6_roomFound (w_X6_roomFound hl hM85 a.toNat n e t (by first | omega | exact kmk_lt _ _ | assumption) hW ⟨by omega, by omega⟩ ⟨by omega, by omega⟩ ⟨by omega, by omega⟩ ) (as := [.int (iI ((a.toNat : Nat) : Int)), .int (iI n), .int (iI e), .int (iI t)]) hM85.1 rfl rfl rfl rfl (by decide) (by decide) (k8 rfl) ?_
            have hrr := rmF_r f a.toNat e t n
            refine k_if_lt (a := (rmF f a.toNat e t n)) dX6_firstCommon_44 rfl (tgt := 56) rfl (by omega) (fun c44 : (rmF f a.toNat e t n) < 0 => ?_) (fun c44 : ¬ (rmF f a.toNat e t n) < 0 => ?_)
            · skip
              refine k_iinc (a := t) (pc1 := 59) dX6_firstCommon_56 rfl rfl (by decide) (k_loc (L' := [some (.ref o), some (.int (iI ((a.toNat : Nat) : Int))), some (.int (iI n)), some (.int (iI k)), some (.int (iI e)), some (.int (iI (t + 1)))]) rfl ?_)
              refine k_goto dX6_firstCommon_59 (tgt := 25) rfl ?_
              exact ih25 _ (by omega) (t + 1) rfl (by omega) (by omega) (fc_s (by omega) ⟨by omega, by omega⟩ (by omega) hJ c44)
            · skip
              refine k_bipush 16 (pc1 := 49) dX6_firstCommon_47 rfl (by decide) ?_
              refine k_iload (pc1 := 51) dX6_firstCommon_49 rfl rfl ?_
              refine k_imul (a := 16) (b := e) (pc1 := 52) dX6_firstCommon_51 rfl ?_
              refine k_iload (pc1 := 54) dX6_firstCommon_52 rfl rfl ?_
              refine k_iadd (a := (16 * e)) (b := t) (pc1 := 55) dX6_firstCommon_54 rfl ?_
              exact k_iret dX6_firstCommon_55 rfl rfl (kMt_mk (c1 := 0) (v1 := ((16 * e) + t)) (f1 := f) (by have e := fc_at (by omega) ⟨hd0, by omega⟩ ⟨by omega, by omega⟩ (by omega) hJ (by omega); unfold TfirstCommon; rw [kI_t hV0, kI_f (by rw [e]; omega), e]) hM85 hF85)
        exact hloop25 _ 0 rfl (by omega) (by omega) hJ
    exact hloop15 _ k rfl (by omega) (by omega) (fun x hx z => by have := z.1; omega)
  · skip
    refine k_callVM (c' := 1) (wm' := (-1)) (wd' := (-1)) (f' := f) (v := .int (iI 1)) dX6_firstCommon_4 rfl lk_RX6_123 o_X6_isNoPlan hM (w_X6_isNoPlanT hl hM hW ra rn rk hV0) (as := [.int (iI a), .int (iI n), .int (iI k)]) rfl rfl rfl (by decide) (by decide) (k8 rfl) (fun h87 hM87 hX87 => ?_)
    have hF87 := kFm_tr (kFm_rf o g r h) hX87
    refine k_if_eq (a := 1) dX6_firstCommon_7 rfl (tgt := 12) rfl (by decide) (fun c => absurd c (by decide)) (fun _ => ?_)
    refine k_iconst (pc1 := 11) dX6_firstCommon_10 rfl ?_
    exact k_iret dX6_firstCommon_11 rfl rfl (kMt_mk (c1 := 1) (v1 := 0) (f1 := f) (by exact kI_f hV0) hM87 hF87)
theorem w_X6_commonCount {l : Launch} {G : kG} {h : kAH} {o g r : Nat} {c : Int} {f : Nat → Int} (hl : l.stackTraces = false) (hM : kMd G h o g r c (-1) (-1) f) (hW : kWf f) (a n k : Int) (ra : -2147483648 ≤ a ∧ a < 2147483648) (rn : -2147483648 ≤ n ∧ n < 2147483648) (rk : -2147483648 ≤ k ∧ k < 2147483648) : kC l G m_X6_commonCount 8 0 0 [.ref o, .int (iI a), .int (iI n), .int (iI k)] h (kMt G o g r (TcommonCount f a n k) h) kNo := by
  have hwm : -1 ≤ (-1 : Int) ∧ (-1 : Int) < 8 := by decide
  have hwd : -1 ≤ (-1 : Int) ∧ (-1 : Int) < 6 := by decide
  have h8 := kWf_cnt hW
  have h9 := kWf_nxt hW
  refine kC_of hl rfl rfl (Nat.le_of_ble_eq_true rfl) (L := [some (.ref o), some (.int (iI a)), some (.int (iI n)), some (.int (iI k)), none, none]) rfl ?_
  refine k_aload_n (pc1 := 1) dX6_commonCount_0 rfl rfl ?_
  refine k_iload_n (pc1 := 2) dX6_commonCount_1 rfl rfl ?_
  refine k_iload_n (pc1 := 3) dX6_commonCount_2 rfl rfl ?_
  refine k_iload_n (pc1 := 4) dX6_commonCount_3 rfl rfl ?_
  by_cases hV0 : (1 ≤ a ∧ a ≤ 63 ∧ 1 ≤ n ∧ n ≤ 6 ∧ 0 ≤ k ∧ k ≤ 27)
  · skip
    refine k_callVM (c' := 0) (wm' := (-1)) (wd' := (-1)) (f' := f) (v := .int (iI 0)) dX6_commonCount_4 rfl lk_RX6_123 o_X6_isNoPlan hM (w_X6_isNoPlanF hl hM hW ra rn rk hV0) (as := [.int (iI a), .int (iI n), .int (iI k)]) rfl rfl rfl (by decide) (by decide) (k8 rfl) (fun h88 hM88 hX88 => ?_)
    have hF88 := kFm_tr (kFm_rf o g r h) hX88
    have hq : a.toNat < 64 := by omega
    refine k_loc (L' := [some (.ref o), some (.int (iI ((a.toNat : Nat) : Int))), some (.int (iI n)), some (.int (iI k)), none, none]) (by rw [Int.toNat_of_nonneg (by omega)]) ?_
    refine k_if_eq (a := 0) dX6_commonCount_7 rfl (tgt := 12) rfl (by decide) (fun _ => ?_) (fun c => absurd c (by decide))
    refine k_iconst (pc1 := 13) dX6_commonCount_12 rfl ?_
    refine k_istore (pc1 := 15) dX6_commonCount_13 rfl (by decide) (k_loc (L' := [some (.ref o), some (.int (iI ((a.toNat : Nat) : Int))), some (.int (iI n)), some (.int (iI k)), some (.int (iI 0)), none]) rfl ?_)
    refine k_iconst (pc1 := 16) dX6_commonCount_15 rfl ?_
    refine k_istore (pc1 := 18) dX6_commonCount_16 rfl (by decide) (k_loc (L' := [some (.ref o), some (.int (iI ((a.toNat : Nat) : Int))), some (.int (iI n)), some (.int (iI k)), some (.int (iI 0)), some (.int (iI 0))]) rfl ?_)
    have hloop18 : ∀ (zz : Nat) (i : Nat), zz = 17 - i → ((i : Int) ≤ 17 - n) → kW l G m_X6_commonCount 8 (kMt G o g r (TcommonCount f a n k) h) kNo 0 0 18 [some (.ref o), some (.int (iI ((a.toNat : Nat) : Int))), some (.int (iI n)), some (.int (iI k)), some (.int (iI (ksm (fun t => kB (0 ≤ rmF f a.toNat k (t : Int) n)) i))), some (.int (iI ((i : Nat) : Int)))] [] h88 := by
      intro zz
      induction zz using Nat.strongRecOn with
      | ind zz ih18 =>
      intro i hr18 hi
      refine k_iload (pc1 := 20) dX6_commonCount_18 rfl rfl ?_
      refine k_iload_n (pc1 := 21) dX6_commonCount_20 rfl rfl ?_
      refine k_iadd (a := ((i : Nat) : Int)) (b := n) (pc1 := 22) dX6_commonCount_21 rfl ?_
      refine k_bipush 16 (pc1 := 24) dX6_commonCount_22 rfl (by decide) ?_
      refine k_icmp_gt (a := (((i : Nat) : Int) + n)) (b := 16) dX6_commonCount_24 rfl (tgt := 55) rfl (by omega) (by decide) (fun c24 : 16 < (((i : Nat) : Int) + n) => ?_) (fun c24 : (((i : Nat) : Int) + n) ≤ 16 => ?_)
      · skip
        refine k_iload (pc1 := 57) dX6_commonCount_55 rfl rfl ?_
        exact k_iret dX6_commonCount_57 rfl rfl (kMt_mk (c1 := 0) (v1 := (ksm (fun t => kB (0 ≤ rmF f a.toNat k (t : Int) n)) i)) (f1 := f) (by have e : (17 - n).toNat = i := (by omega); unfold TcommonCount; rw [kI_t hV0, e]) hM88 hF88)
      · skip
        refine k_iload (pc1 := 29) dX6_commonCount_27 rfl rfl ?_
        refine k_aload_n (pc1 := 30) dX6_commonCount_29 rfl rfl ?_
        refine k_iload_n (pc1 := 31) dX6_commonCount_30 rfl rfl ?_
        refine k_iload_n (pc1 := 32) dX6_commonCount_31 rfl rfl ?_
        refine k_iload_n (pc1 := 33) dX6_commonCount_32 rfl rfl ?_
        refine k_iload (pc1 := 35) dX6_commonCount_33 rfl rfl ?_
        refine k_callVP dX6_commonCount_35 rfl lk_RX6_126 o_X6_roomFound (w_X6_roomFound hl hM88 a.toNat n k ((i : Nat) : Int) (by first | omega | exact kmk_lt _ _ | assumption) hW ⟨by omega, by omega⟩ ⟨by omega, by omega⟩ ⟨by omega, by omega⟩ ) (as := [.int (iI ((a.toNat : Nat) : Int)), .int (iI n), .int (iI k), .int (iI ((i : Nat) : Int))]) hM88.1 rfl rfl rfl rfl (by decide) (by decide) (k8 rfl) ?_
        have hrr := rmF_r f a.toNat k ((i : Nat) : Int) n
        refine k_if_lt (a := (rmF f a.toNat k ((i : Nat) : Int) n)) dX6_commonCount_38 rfl (tgt := 45) rfl (by omega) (fun c38 : (rmF f a.toNat k ((i : Nat) : Int) n) < 0 => ?_) (fun c38 : ¬ (rmF f a.toNat k ((i : Nat) : Int) n) < 0 => ?_)
        · skip
          refine k_iconst (pc1 := 46) dX6_commonCount_45 rfl ?_
          refine k_iadd (a := (ksm (fun t => kB (0 ≤ rmF f a.toNat k (t : Int) n)) i)) (b := 0) (pc1 := 47) dX6_commonCount_46 rfl ?_
          refine k_istore (pc1 := 49) dX6_commonCount_47 rfl (by decide) (k_loc (L' := [some (.ref o), some (.int (iI ((a.toNat : Nat) : Int))), some (.int (iI n)), some (.int (iI k)), some (.int (iI ((ksm (fun t => kB (0 ≤ rmF f a.toNat k (t : Int) n)) i) + 0))), some (.int (iI ((i : Nat) : Int)))]) rfl ?_)
          refine k_iinc (a := ((i : Nat) : Int)) (pc1 := 52) dX6_commonCount_49 rfl rfl (by decide) (k_loc (L' := [some (.ref o), some (.int (iI ((a.toNat : Nat) : Int))), some (.int (iI n)), some (.int (iI k)), some (.int (iI ((ksm (fun t => kB (0 ≤ rmF f a.toNat k (t : Int) n)) i) + 0))), some (.int (iI (((i : Nat) : Int) + 1)))]) rfl ?_)
          refine k_goto dX6_commonCount_52 (tgt := 18) rfl ?_
          have e : (ksm (fun t => kB (0 ≤ rmF f a.toNat k (t : Int) n)) (i + 1)) = ((ksm (fun t => kB (0 ≤ rmF f a.toNat k (t : Int) n)) i) + 0) := congrArg (fun z => (ksm (fun t => kB (0 ≤ rmF f a.toNat k (t : Int) n)) i) + z) (kB_f (by omega))
          refine k_loc (L' := [some (.ref o), some (.int (iI ((a.toNat : Nat) : Int))), some (.int (iI n)), some (.int (iI k)), some (.int (iI (ksm (fun t => kB (0 ≤ rmF f a.toNat k (t : Int) n)) (i + 1)))), some (.int (iI (((i : Nat) : Int) + 1)))]) (by rw [e]) ?_
          exact ih18 _ (by omega) (i + 1) rfl (by omega)
        · skip
          refine k_iconst (pc1 := 42) dX6_commonCount_41 rfl ?_
          refine k_goto dX6_commonCount_42 (tgt := 46) rfl ?_
          refine k_iadd (a := (ksm (fun t => kB (0 ≤ rmF f a.toNat k (t : Int) n)) i)) (b := 1) (pc1 := 47) dX6_commonCount_46 rfl ?_
          refine k_istore (pc1 := 49) dX6_commonCount_47 rfl (by decide) (k_loc (L' := [some (.ref o), some (.int (iI ((a.toNat : Nat) : Int))), some (.int (iI n)), some (.int (iI k)), some (.int (iI ((ksm (fun t => kB (0 ≤ rmF f a.toNat k (t : Int) n)) i) + 1))), some (.int (iI ((i : Nat) : Int)))]) rfl ?_)
          refine k_iinc (a := ((i : Nat) : Int)) (pc1 := 52) dX6_commonCount_49 rfl rfl (by decide) (k_loc (L' := [some (.ref o), some (.int (iI ((a.toNat : Nat) : Int))), some (.int (iI n)), some (.int (iI k)), some (.int (iI ((ksm (fun t => kB (0 ≤ rmF f a.toNat k (t : Int) n)) i) + 1))), some (.int (iI (((i : Nat) : Int) + 1)))]) rfl ?_)
          refine k_goto dX6_commonCount_52 (tgt := 18) rfl ?_
          have e : (ksm (fun t => kB (0 ≤ rmF f a.toNat k (t : Int) n)) (i + 1)) = ((ksm (fun t => kB (0 ≤ rmF f a.toNat k (t : Int) n)) i) + 1) := congrArg (fun z => (ksm (fun t => kB (0 ≤ rmF f a.toNat k (t : Int) n)) i) + z) (kB_t (by omega))
          refine k_loc (L' := [some (.ref o), some (.int (iI ((a.toNat : Nat) : Int))), some (.int (iI n)), some (.int (iI k)), some (.int (iI (ksm (fun t => kB (0 ≤ rmF f a.toNat k (t : Int) n)) (i + 1)))), some (.int (iI (((i : Nat) : Int) + 1)))]) (by rw [e]) ?_
          exact ih18 _ (by omega) (i + 1) rfl (by omega)
    exact hloop18 _ 0 rfl (by omega)
  · skip
    refine k_callVM (c' := 1) (wm' := (-1)) (wd' := (-1)) (f' := f) (v := .int (iI 1)) dX6_commonCount_4 rfl lk_RX6_123 o_X6_isNoPlan hM (w_X6_isNoPlanT hl hM hW ra rn rk hV0) (as := [.int (iI a), .int (iI n), .int (iI k)]) rfl rfl rfl (by decide) (by decide) (k8 rfl) (fun h89 hM89 hX89 => ?_)
    have hF89 := kFm_tr (kFm_rf o g r h) hX89
    refine k_if_eq (a := 1) dX6_commonCount_7 rfl (tgt := 12) rfl (by decide) (fun c => absurd c (by decide)) (fun _ => ?_)
    refine k_iconst (pc1 := 11) dX6_commonCount_10 rfl ?_
    exact k_iret dX6_commonCount_11 rfl rfl (kMt_mk (c1 := 1) (v1 := 0) (f1 := f) (by exact kI_f hV0) hM89 hF89)
theorem w_X6_roomFor {l : Launch} {G : kG} {h : kAH} {o g r : Nat} {c : Int} {f : Nat → Int} (hl : l.stackTraces = false) (hM : kMd G h o g r c (-1) (-1) f) (hW : kWf f) (a n k t : Int) (ra : -2147483648 ≤ a ∧ a < 2147483648) (rn : -2147483648 ≤ n ∧ n < 2147483648) (rk : -2147483648 ≤ k ∧ k < 2147483648) (rt : -2147483648 ≤ t ∧ t < 2147483648) : kC l G m_X6_roomFor 8 0 0 [.ref o, .int (iI a), .int (iI n), .int (iI k), .int (iI t)] h (kMt G o g r (TroomFor f a n k t) h) kNo := by
  have hwm : -1 ≤ (-1 : Int) ∧ (-1 : Int) < 8 := by decide
  have hwd : -1 ≤ (-1 : Int) ∧ (-1 : Int) < 6 := by decide
  have h8 := kWf_cnt hW
  have h9 := kWf_nxt hW
  refine kC_of hl rfl rfl (Nat.le_of_ble_eq_true rfl) (L := [some (.ref o), some (.int (iI a)), some (.int (iI n)), some (.int (iI k)), some (.int (iI t)), none]) rfl ?_
  refine k_aload_n (pc1 := 1) dX6_roomFor_0 rfl rfl ?_
  refine k_iload_n (pc1 := 2) dX6_roomFor_1 rfl rfl ?_
  refine k_iload_n (pc1 := 3) dX6_roomFor_2 rfl rfl ?_
  refine k_iload_n (pc1 := 4) dX6_roomFor_3 rfl rfl ?_
  by_cases hV0 : (1 ≤ a ∧ a ≤ 63 ∧ 1 ≤ n ∧ n ≤ 6 ∧ 0 ≤ k ∧ k ≤ 27)
  · skip
    refine k_callVM (c' := 0) (wm' := (-1)) (wd' := (-1)) (f' := f) (v := .int (iI 0)) dX6_roomFor_4 rfl lk_RX6_123 o_X6_isNoPlan hM (w_X6_isNoPlanF hl hM hW ra rn rk hV0) (as := [.int (iI a), .int (iI n), .int (iI k)]) rfl rfl rfl (by decide) (by decide) (k8 rfl) (fun h90 hM90 hX90 => ?_)
    have hF90 := kFm_tr (kFm_rf o g r h) hX90
    have hq : a.toNat < 64 := by omega
    refine k_loc (L' := [some (.ref o), some (.int (iI ((a.toNat : Nat) : Int))), some (.int (iI n)), some (.int (iI k)), some (.int (iI t)), none]) (by rw [Int.toNat_of_nonneg (by omega)]) ?_
    refine k_if_ne (a := 0) dX6_roomFor_7 rfl (tgt := 39) rfl (by decide) (fun c => absurd c (by decide)) (fun _ => ?_)
    refine k_aload_n (pc1 := 11) dX6_roomFor_10 rfl rfl ?_
    refine k_iload (pc1 := 13) dX6_roomFor_11 rfl rfl ?_
    refine k_callSP dX6_roomFor_13 rfl lk_RX6_80 o_X6_isTime (w_X6_isTime hl t (by omega)) (as := [.int (iI t)]) rfl rfl rfl (by decide) (by decide) (k8 rfl) ?_
    refine k_if_eq (a := kB (0 ≤ t ∧ t ≤ 15)) dX6_roomFor_16 rfl (tgt := 32) rfl (kB_r _) (fun c16 : kB (0 ≤ t ∧ t ≤ 15) = 0 => ?_) (fun c16 : kB (0 ≤ t ∧ t ≤ 15) ≠ 0 => ?_)
    · replace c16 : ¬(0 ≤ t ∧ t ≤ 15) := kB_z.mp c16
      refine k_iconst (pc1 := 33) dX6_roomFor_32 rfl ?_
      refine k_callVM (c' := 1) (wm' := (-1)) (wd' := (-1)) (f' := f) (v := .int (iI 1)) dX6_roomFor_33 rfl lk_RX6_34 o_X6_fails hM90 (w_X6_failsT hl hM90 (by decide)) (as := [.int (iI 1)]) rfl rfl rfl (by decide) (by decide) (k8 rfl) (fun h91 hM91 hX91 => ?_)
      have hF91 := kFm_tr hF90 hX91
      refine k_if_eq (a := 1) dX6_roomFor_36 rfl (tgt := 41) rfl (by decide) (fun c => absurd c (by decide)) (fun _ => ?_)
      refine k_iconst (pc1 := 40) dX6_roomFor_39 rfl ?_
      exact k_iret dX6_roomFor_40 rfl rfl (kMt_mk (c1 := 1) (v1 := 0) (f1 := f) (by unfold TroomFor; first | exact kI_f (by omega) | exact (kI_t (by omega)).trans (kI_t (by omega)) | exact (kI_t (by omega)).trans (kI_f (by omega))) hM91 hF91)
    · replace c16 : (0 ≤ t ∧ t ≤ 15) := kB_nz.mp c16
      refine k_iload (pc1 := 21) dX6_roomFor_19 rfl rfl ?_
      refine k_iload_n (pc1 := 22) dX6_roomFor_21 rfl rfl ?_
      refine k_iadd (a := t) (b := n) (pc1 := 23) dX6_roomFor_22 rfl ?_
      refine k_bipush 16 (pc1 := 25) dX6_roomFor_23 rfl (by decide) ?_
      refine k_icmp_gt (a := (t + n)) (b := 16) dX6_roomFor_25 rfl (tgt := 32) rfl (by omega) (by decide) (fun c25 : 16 < (t + n) => ?_) (fun c25 : (t + n) ≤ 16 => ?_)
      · skip
        refine k_iconst (pc1 := 33) dX6_roomFor_32 rfl ?_
        refine k_callVM (c' := 1) (wm' := (-1)) (wd' := (-1)) (f' := f) (v := .int (iI 1)) dX6_roomFor_33 rfl lk_RX6_34 o_X6_fails hM90 (w_X6_failsT hl hM90 (by decide)) (as := [.int (iI 1)]) rfl rfl rfl (by decide) (by decide) (k8 rfl) (fun h92 hM92 hX92 => ?_)
        have hF92 := kFm_tr hF90 hX92
        refine k_if_eq (a := 1) dX6_roomFor_36 rfl (tgt := 41) rfl (by decide) (fun c => absurd c (by decide)) (fun _ => ?_)
        refine k_iconst (pc1 := 40) dX6_roomFor_39 rfl ?_
        exact k_iret dX6_roomFor_40 rfl rfl (kMt_mk (c1 := 1) (v1 := 0) (f1 := f) (by unfold TroomFor; first | exact kI_f (by omega) | exact (kI_t (by omega)).trans (kI_t (by omega)) | exact (kI_t (by omega)).trans (kI_f (by omega))) hM92 hF92)
      · skip
        refine k_iconst (pc1 := 29) dX6_roomFor_28 rfl ?_
        refine k_goto dX6_roomFor_29 (tgt := 33) rfl ?_
        refine k_callVM (c' := 0) (wm' := (-1)) (wd' := (-1)) (f' := f) (v := .int (iI 0)) dX6_roomFor_33 rfl lk_RX6_34 o_X6_fails hM90 (w_X6_failsF hl hM90) (as := [.int (iI 0)]) rfl rfl rfl (by decide) (by decide) (k8 rfl) (fun h93 hM93 hX93 => ?_)
        have hF93 := kFm_tr hF90 hX93
        refine k_if_eq (a := 0) dX6_roomFor_36 rfl (tgt := 41) rfl (by decide) (fun _ => ?_) (fun c => absurd c (by decide))
        refine k_aload_n (pc1 := 42) dX6_roomFor_41 rfl rfl ?_
        refine k_iload_n (pc1 := 43) dX6_roomFor_42 rfl rfl ?_
        refine k_iload_n (pc1 := 44) dX6_roomFor_43 rfl rfl ?_
        refine k_iload_n (pc1 := 45) dX6_roomFor_44 rfl rfl ?_
        refine k_iload (pc1 := 47) dX6_roomFor_45 rfl rfl ?_
        refine k_callVP dX6_roomFor_47 rfl lk_RX6_126 o_X6_roomFound (w_X6_roomFound hl hM93 a.toNat n k t (by first | omega | exact kmk_lt _ _ | assumption) hW ⟨by omega, by omega⟩ ⟨by omega, by omega⟩ ⟨by omega, by omega⟩ ) (as := [.int (iI ((a.toNat : Nat) : Int)), .int (iI n), .int (iI k), .int (iI t)]) hM93.1 rfl rfl rfl rfl (by decide) (by decide) (k8 rfl) ?_
        have hrr := rmF_r f a.toNat k t n
        refine k_istore (pc1 := 52) dX6_roomFor_50 rfl (by decide) (k_loc (L' := [some (.ref o), some (.int (iI ((a.toNat : Nat) : Int))), some (.int (iI n)), some (.int (iI k)), some (.int (iI t)), some (.int (iI (rmF f a.toNat k t n)))]) rfl ?_)
        refine k_aload_n (pc1 := 53) dX6_roomFor_52 rfl rfl ?_
        refine k_iload (pc1 := 55) dX6_roomFor_53 rfl rfl ?_
        refine k_if_ge (a := (rmF f a.toNat k t n)) dX6_roomFor_55 rfl (tgt := 62) rfl (by omega) (fun c55 : 0 ≤ (rmF f a.toNat k t n) => ?_) (fun c55 : (rmF f a.toNat k t n) < 0 => ?_)
        · skip
          refine k_iconst (pc1 := 63) dX6_roomFor_62 rfl ?_
          refine k_callVM (c' := 0) (wm' := (-1)) (wd' := (-1)) (f' := f) (v := .int (iI 0)) dX6_roomFor_63 rfl lk_RX6_34 o_X6_fails hM93 (w_X6_failsF hl hM93) (as := [.int (iI 0)]) rfl rfl rfl (by decide) (by decide) (k8 rfl) (fun h94 hM94 hX94 => ?_)
          have hF94 := kFm_tr hF93 hX94
          refine k_if_eq (a := 0) dX6_roomFor_66 rfl (tgt := 73) rfl (by decide) (fun _ => ?_) (fun c => absurd c (by decide))
          refine k_iload (pc1 := 75) dX6_roomFor_73 rfl rfl ?_
          exact k_iret dX6_roomFor_75 rfl rfl (kMt_mk (c1 := 0) (v1 := (rmF f a.toNat k t n)) (f1 := f) (by unfold TroomFor; first | exact kI_f (by omega) | exact (kI_t (by omega)).trans (kI_t (by omega)) | exact (kI_t (by omega)).trans (kI_f (by omega))) hM94 hF94)
        · skip
          refine k_iconst (pc1 := 59) dX6_roomFor_58 rfl ?_
          refine k_goto dX6_roomFor_59 (tgt := 63) rfl ?_
          refine k_callVM (c' := 2) (wm' := (-1)) (wd' := (-1)) (f' := f) (v := .int (iI 1)) dX6_roomFor_63 rfl lk_RX6_34 o_X6_fails hM93 (w_X6_failsT hl hM93 (by decide)) (as := [.int (iI 2)]) rfl rfl rfl (by decide) (by decide) (k8 rfl) (fun h95 hM95 hX95 => ?_)
          have hF95 := kFm_tr hF93 hX95
          refine k_if_eq (a := 1) dX6_roomFor_66 rfl (tgt := 73) rfl (by decide) (fun c => absurd c (by decide)) (fun _ => ?_)
          refine k_iconst (pc1 := 70) dX6_roomFor_69 rfl ?_
          refine k_goto dX6_roomFor_70 (tgt := 75) rfl ?_
          exact k_iret dX6_roomFor_75 rfl rfl (kMt_mk (c1 := 2) (v1 := 0) (f1 := f) (by unfold TroomFor; first | exact kI_f (by omega) | exact (kI_t (by omega)).trans (kI_t (by omega)) | exact (kI_t (by omega)).trans (kI_f (by omega))) hM95 hF95)
  · skip
    refine k_callVM (c' := 1) (wm' := (-1)) (wd' := (-1)) (f' := f) (v := .int (iI 1)) dX6_roomFor_4 rfl lk_RX6_123 o_X6_isNoPlan hM (w_X6_isNoPlanT hl hM hW ra rn rk hV0) (as := [.int (iI a), .int (iI n), .int (iI k)]) rfl rfl rfl (by decide) (by decide) (k8 rfl) (fun h96 hM96 hX96 => ?_)
    have hF96 := kFm_tr (kFm_rf o g r h) hX96
    refine k_if_ne (a := 1) dX6_roomFor_7 rfl (tgt := 39) rfl (by decide) (fun _ => ?_) (fun c => absurd c (by decide))
    refine k_iconst (pc1 := 40) dX6_roomFor_39 rfl ?_
    exact k_iret dX6_roomFor_40 rfl rfl (kMt_mk (c1 := 1) (v1 := 0) (f1 := f) (by unfold TroomFor; first | exact kI_f (by omega) | exact (kI_t (by omega)).trans (kI_t (by omega)) | exact (kI_t (by omega)).trans (kI_f (by omega))) hM96 hF96)
theorem w_X6_usedTimes {l : Launch} {G : kG} {h : kAH} {o g r : Nat} {c : Int} {f : Nat → Int} (hl : l.stackTraces = false) (hM : kMd G h o g r c (-1) (-1) f) (hW : kWf f) (rm k : Int) (rrm : -2147483648 ≤ rm ∧ rm < 2147483648) (rk : -2147483648 ≤ k ∧ k < 2147483648) : kC l G m_X6_usedTimes 5 0 0 [.ref o, .int (iI rm), .int (iI k)] h (kMt G o g r (TusedTimes f rm k) h) kNo := by
  have hwm : -1 ≤ (-1 : Int) ∧ (-1 : Int) < 8 := by decide
  have hwd : -1 ≤ (-1 : Int) ∧ (-1 : Int) < 6 := by decide
  have h8 := kWf_cnt hW
  have h9 := kWf_nxt hW
  refine kC_of hl rfl rfl (Nat.le_of_ble_eq_true rfl) (L := [some (.ref o), some (.int (iI rm)), some (.int (iI k)), none, none, none, none, none]) rfl ?_
  refine k_aload_n (pc1 := 1) dX6_usedTimes_0 rfl rfl ?_
  refine k_iload_n (pc1 := 2) dX6_usedTimes_1 rfl rfl ?_
  refine k_callSP dX6_usedTimes_2 rfl lk_RX6_30 o_X6_isRoom (w_X6_isRoom hl rm (by omega)) (as := [.int (iI rm)]) rfl rfl rfl (by decide) (by decide) (k8 rfl) ?_
  refine k_if_eq (a := kB (0 ≤ rm ∧ rm ≤ 3)) dX6_usedTimes_5 rfl (tgt := 19) rfl (kB_r _) (fun c5 : kB (0 ≤ rm ∧ rm ≤ 3) = 0 => ?_) (fun c5 : kB (0 ≤ rm ∧ rm ≤ 3) ≠ 0 => ?_)
  · replace c5 : ¬(0 ≤ rm ∧ rm ≤ 3) := kB_z.mp c5
    refine k_iconst (pc1 := 20) dX6_usedTimes_19 rfl ?_
    refine k_callVM (c' := 1) (wm' := (-1)) (wd' := (-1)) (f' := f) (v := .int (iI 1)) dX6_usedTimes_20 rfl lk_RX6_34 o_X6_fails hM (w_X6_failsT hl hM (by decide)) (as := [.int (iI 1)]) rfl rfl rfl (by decide) (by decide) (k8 rfl) (fun h97 hM97 hX97 => ?_)
    have hF97 := kFm_tr (kFm_rf o g r h) hX97
    refine k_if_eq (a := 1) dX6_usedTimes_23 rfl (tgt := 28) rfl (by decide) (fun c => absurd c (by decide)) (fun _ => ?_)
    refine k_iconst (pc1 := 27) dX6_usedTimes_26 rfl ?_
    exact k_iret dX6_usedTimes_27 rfl rfl (kMt_mk (c1 := 1) (v1 := 0) (f1 := f) (by first | exact kI_t (by first | omega | assumption) | exact kI_f (by first | omega | assumption)) hM97 hF97)
  · replace c5 : (0 ≤ rm ∧ rm ≤ 3) := kB_nz.mp c5
    refine k_iload_n (pc1 := 9) dX6_usedTimes_8 rfl rfl ?_
    refine k_callSP dX6_usedTimes_9 rfl lk_RX6_77 o_X6_isDay (w_X6_isDay hl k (by omega)) (as := [.int (iI k)]) rfl rfl rfl (by decide) (by decide) (k8 rfl) ?_
    refine k_if_eq (a := kB (0 ≤ k ∧ k ≤ 27)) dX6_usedTimes_12 rfl (tgt := 19) rfl (kB_r _) (fun c12 : kB (0 ≤ k ∧ k ≤ 27) = 0 => ?_) (fun c12 : kB (0 ≤ k ∧ k ≤ 27) ≠ 0 => ?_)
    · replace c12 : ¬(0 ≤ k ∧ k ≤ 27) := kB_z.mp c12
      refine k_iconst (pc1 := 20) dX6_usedTimes_19 rfl ?_
      refine k_callVM (c' := 1) (wm' := (-1)) (wd' := (-1)) (f' := f) (v := .int (iI 1)) dX6_usedTimes_20 rfl lk_RX6_34 o_X6_fails hM (w_X6_failsT hl hM (by decide)) (as := [.int (iI 1)]) rfl rfl rfl (by decide) (by decide) (k8 rfl) (fun h98 hM98 hX98 => ?_)
      have hF98 := kFm_tr (kFm_rf o g r h) hX98
      refine k_if_eq (a := 1) dX6_usedTimes_23 rfl (tgt := 28) rfl (by decide) (fun c => absurd c (by decide)) (fun _ => ?_)
      refine k_iconst (pc1 := 27) dX6_usedTimes_26 rfl ?_
      exact k_iret dX6_usedTimes_27 rfl rfl (kMt_mk (c1 := 1) (v1 := 0) (f1 := f) (by first | exact kI_t (by first | omega | assumption) | exact kI_f (by first | omega | assumption)) hM98 hF98)
    · replace c12 : (0 ≤ k ∧ k ≤ 27) := kB_nz.mp c12
      refine k_iconst (pc1 := 16) dX6_usedTimes_15 rfl ?_
      refine k_goto dX6_usedTimes_16 (tgt := 20) rfl ?_
      refine k_callVM (c' := 0) (wm' := (-1)) (wd' := (-1)) (f' := f) (v := .int (iI 0)) dX6_usedTimes_20 rfl lk_RX6_34 o_X6_fails hM (w_X6_failsF hl hM) (as := [.int (iI 0)]) rfl rfl rfl (by decide) (by decide) (k8 rfl) (fun h99 hM99 hX99 => ?_)
      have hF99 := kFm_tr (kFm_rf o g r h) hX99
      refine k_if_eq (a := 0) dX6_usedTimes_23 rfl (tgt := 28) rfl (by decide) (fun _ => ?_) (fun c => absurd c (by decide))
      refine k_iconst (pc1 := 29) dX6_usedTimes_28 rfl ?_
      refine k_istore_n (pc1 := 30) dX6_usedTimes_29 rfl (by decide) (k_loc (L' := [some (.ref o), some (.int (iI rm)), some (.int (iI k)), some (.int (iI 0)), none, none, none, none]) rfl ?_)
      refine k_iconst (pc1 := 31) dX6_usedTimes_30 rfl ?_
      refine k_istore (pc1 := 33) dX6_usedTimes_31 rfl (by decide) (k_loc (L' := [some (.ref o), some (.int (iI rm)), some (.int (iI k)), some (.int (iI 0)), some (.int (iI 0)), none, none, none]) rfl ?_)
      have hloop33 : ∀ (zz : Nat) (i : Nat), zz = 16 - i → (i ≤ 16) → kW l G m_X6_usedTimes 5 (kMt G o g r (TusedTimes f rm k) h) kNo 0 0 33 [some (.ref o), some (.int (iI rm)), some (.int (iI k)), some (.int (iI (ksm (fun t => kB (usF f rm k (t : Int))) i))), some (.int (iI ((i : Nat) : Int))), none, none, none] [] h99 := by
        intro zz
        induction zz using Nat.strongRecOn with
        | ind zz ih33 =>
        intro i hr33 hi
        refine k_iload (pc1 := 35) dX6_usedTimes_33 rfl rfl ?_
        refine k_bipush 16 (pc1 := 37) dX6_usedTimes_35 rfl (by decide) ?_
        refine k_icmp_ge (a := ((i : Nat) : Int)) (b := 16) dX6_usedTimes_37 rfl (tgt := 152) rfl (by omega) (by decide) (fun c37 : 16 ≤ ((i : Nat) : Int) => ?_) (fun c37 : ((i : Nat) : Int) < 16 => ?_)
        · skip
          refine k_iload_n (pc1 := 153) dX6_usedTimes_152 rfl rfl ?_
          exact k_iret dX6_usedTimes_153 rfl rfl (kMt_mk (c1 := 0) (v1 := (ksm (fun t => kB (usF f rm k (t : Int))) i)) (f1 := f) (by have e : i = 16 := (by omega); subst e; exact kI_t (by omega)) hM99 hF99)
        · skip
          refine k_iconst (pc1 := 41) dX6_usedTimes_40 rfl ?_
          refine k_istore (pc1 := 43) dX6_usedTimes_41 rfl (by decide) (k_loc (L' := [some (.ref o), some (.int (iI rm)), some (.int (iI k)), some (.int (iI (ksm (fun t => kB (usF f rm k (t : Int))) i))), some (.int (iI ((i : Nat) : Int))), some (.int (iI 0)), none, none]) rfl ?_)
          refine k_iconst (pc1 := 44) dX6_usedTimes_43 rfl ?_
          refine k_istore (pc1 := 46) dX6_usedTimes_44 rfl (by decide) (k_loc (L' := [some (.ref o), some (.int (iI rm)), some (.int (iI k)), some (.int (iI (ksm (fun t => kB (usF f rm k (t : Int))) i))), some (.int (iI ((i : Nat) : Int))), some (.int (iI 0)), some (.int (iI 0)), none]) rfl ?_)
          have hloop46 : ∀ (zz : Nat) (m : Int) (b : Nat), zz = (f 1 - m).toNat → (0 ≤ m) → (m ≤ f 1) → (usI f rm k (i : Int) m 0 b) → kW l G m_X6_usedTimes 5 (kMt G o g r (TusedTimes f rm k) h) kNo 0 0 46 [some (.ref o), some (.int (iI rm)), some (.int (iI k)), some (.int (iI (ksm (fun t => kB (usF f rm k (t : Int))) i))), some (.int (iI ((i : Nat) : Int))), some (.int (iI ((b : Nat) : Int))), some (.int (iI m)), none] [] h99 := by
            intro zz
            induction zz using Nat.strongRecOn with
            | ind zz ih46 =>
            intro m b hr46 hm0 hm1 hB
            refine k_iload (pc1 := 48) dX6_usedTimes_46 rfl rfl ?_
            refine k_aload_n (pc1 := 49) dX6_usedTimes_48 rfl rfl ?_
            refine k_get (pc1 := 52) dX6_usedTimes_49 rfl fd_RX6_7 hM99.1 (v := .ref g) rfl ?_
            refine k_iconst (pc1 := 53) dX6_usedTimes_52 rfl ?_
            refine k_iald (i := 1) (f := f) (pc1 := 54) dX6_usedTimes_53 rfl hM99.2.1 (N := 380) (by omega) (by omega) (by decide) (k_val (v' := .int (iI (f 1))) rfl ?_)
            refine k_icmp_ge (a := m) (b := (f 1)) dX6_usedTimes_54 rfl (tgt := 133) rfl (by omega) (by omega) (fun c54 : (f 1) ≤ m => ?_) (fun c54 : m < (f 1) => ?_)
            · skip
              refine k_iload_n (pc1 := 134) dX6_usedTimes_133 rfl rfl ?_
              refine k_iload (pc1 := 136) dX6_usedTimes_134 rfl rfl ?_
              have hbr := usI_r hB
              refine k_if_eq (a := ((b : Nat) : Int)) dX6_usedTimes_136 rfl (tgt := 143) rfl (by omega) (fun c136 : ((b : Nat) : Int) = 0 => ?_) (fun c136 : ((b : Nat) : Int) ≠ 0 => ?_)
              · skip
                refine k_iconst (pc1 := 144) dX6_usedTimes_143 rfl ?_
                refine k_iadd (a := (ksm (fun t => kB (usF f rm k (t : Int))) i)) (b := 0) (pc1 := 145) dX6_usedTimes_144 rfl ?_
                refine k_istore_n (pc1 := 146) dX6_usedTimes_145 rfl (by decide) (k_loc (L' := [some (.ref o), some (.int (iI rm)), some (.int (iI k)), some (.int (iI ((ksm (fun t => kB (usF f rm k (t : Int))) i) + 0))), some (.int (iI ((i : Nat) : Int))), some (.int (iI ((b : Nat) : Int))), some (.int (iI m)), none]) rfl ?_)
                refine k_iinc (a := ((i : Nat) : Int)) (pc1 := 149) dX6_usedTimes_146 rfl rfl (by decide) (k_loc (L' := [some (.ref o), some (.int (iI rm)), some (.int (iI k)), some (.int (iI ((ksm (fun t => kB (usF f rm k (t : Int))) i) + 0))), some (.int (iI (((i : Nat) : Int) + 1))), some (.int (iI ((b : Nat) : Int))), some (.int (iI m)), none]) rfl ?_)
                refine k_goto dX6_usedTimes_149 (tgt := 33) rfl ?_
                refine k_forget 5 (k_loc (L' := [some (.ref o), some (.int (iI rm)), some (.int (iI k)), some (.int (iI ((ksm (fun t => kB (usF f rm k (t : Int))) i) + 0))), some (.int (iI (((i : Nat) : Int) + 1))), none, some (.int (iI m)), none]) rfl ?_)
                refine k_forget 6 (k_loc (L' := [some (.ref o), some (.int (iI rm)), some (.int (iI k)), some (.int (iI ((ksm (fun t => kB (usF f rm k (t : Int))) i) + 0))), some (.int (iI (((i : Nat) : Int) + 1))), none, none, none]) rfl ?_)
                have e : (ksm (fun t => kB (usF f rm k (t : Int))) (i + 1)) = ((ksm (fun t => kB (usF f rm k (t : Int))) i) + 0) := congrArg (fun z => (ksm (fun t => kB (usF f rm k (t : Int))) i) + z) (kB_f (by rcases usI_end hB (show m = f 1 by omega) with z | z; exact z.2; omega))
                refine k_loc (L' := [some (.ref o), some (.int (iI rm)), some (.int (iI k)), some (.int (iI (ksm (fun t => kB (usF f rm k (t : Int))) (i + 1)))), some (.int (iI (((i : Nat) : Int) + 1))), none, none, none]) (by rw [e]) ?_
                exact ih33 _ (by omega) (i + 1) rfl (by omega)
              · skip
                refine k_iconst (pc1 := 140) dX6_usedTimes_139 rfl ?_
                refine k_goto dX6_usedTimes_140 (tgt := 144) rfl ?_
                refine k_iadd (a := (ksm (fun t => kB (usF f rm k (t : Int))) i)) (b := 1) (pc1 := 145) dX6_usedTimes_144 rfl ?_
                refine k_istore_n (pc1 := 146) dX6_usedTimes_145 rfl (by decide) (k_loc (L' := [some (.ref o), some (.int (iI rm)), some (.int (iI k)), some (.int (iI ((ksm (fun t => kB (usF f rm k (t : Int))) i) + 1))), some (.int (iI ((i : Nat) : Int))), some (.int (iI ((b : Nat) : Int))), some (.int (iI m)), none]) rfl ?_)
                refine k_iinc (a := ((i : Nat) : Int)) (pc1 := 149) dX6_usedTimes_146 rfl rfl (by decide) (k_loc (L' := [some (.ref o), some (.int (iI rm)), some (.int (iI k)), some (.int (iI ((ksm (fun t => kB (usF f rm k (t : Int))) i) + 1))), some (.int (iI (((i : Nat) : Int) + 1))), some (.int (iI ((b : Nat) : Int))), some (.int (iI m)), none]) rfl ?_)
                refine k_goto dX6_usedTimes_149 (tgt := 33) rfl ?_
                refine k_forget 5 (k_loc (L' := [some (.ref o), some (.int (iI rm)), some (.int (iI k)), some (.int (iI ((ksm (fun t => kB (usF f rm k (t : Int))) i) + 1))), some (.int (iI (((i : Nat) : Int) + 1))), none, some (.int (iI m)), none]) rfl ?_)
                refine k_forget 6 (k_loc (L' := [some (.ref o), some (.int (iI rm)), some (.int (iI k)), some (.int (iI ((ksm (fun t => kB (usF f rm k (t : Int))) i) + 1))), some (.int (iI (((i : Nat) : Int) + 1))), none, none, none]) rfl ?_)
                have e : (ksm (fun t => kB (usF f rm k (t : Int))) (i + 1)) = ((ksm (fun t => kB (usF f rm k (t : Int))) i) + 1) := congrArg (fun z => (ksm (fun t => kB (usF f rm k (t : Int))) i) + z) (kB_t (by rcases usI_end hB (show m = f 1 by omega) with z | z; omega; exact z.2))
                refine k_loc (L' := [some (.ref o), some (.int (iI rm)), some (.int (iI k)), some (.int (iI (ksm (fun t => kB (usF f rm k (t : Int))) (i + 1)))), some (.int (iI (((i : Nat) : Int) + 1))), none, none, none]) (by rw [e]) ?_
                exact ih33 _ (by omega) (i + 1) rfl (by omega)
            · skip
              have hm := kWf_m hW hm0 c54
              refine k_iconst (pc1 := 58) dX6_usedTimes_57 rfl ?_
              refine k_istore (pc1 := 60) dX6_usedTimes_58 rfl (by decide) (k_loc (L' := [some (.ref o), some (.int (iI rm)), some (.int (iI k)), some (.int (iI (ksm (fun t => kB (usF f rm k (t : Int))) i))), some (.int (iI ((i : Nat) : Int))), some (.int (iI ((b : Nat) : Int))), some (.int (iI m)), some (.int (iI 0))]) rfl ?_)
              have hloop60 : ∀ (zz : Nat) (dt : Int) (b : Nat), zz = (oF f m 3 - dt).toNat → (0 ≤ dt) → (dt ≤ oF f m 3) → (usI f rm k (i : Int) m dt b) → kW l G m_X6_usedTimes 5 (kMt G o g r (TusedTimes f rm k) h) kNo 0 0 60 [some (.ref o), some (.int (iI rm)), some (.int (iI k)), some (.int (iI (ksm (fun t => kB (usF f rm k (t : Int))) i))), some (.int (iI ((i : Nat) : Int))), some (.int (iI ((b : Nat) : Int))), some (.int (iI m)), some (.int (iI dt))] [] h99 := by
                intro zz
                induction zz using Nat.strongRecOn with
                | ind zz ih60 =>
                intro dt b hr60 hd0 hd1 hB
                refine k_iload (pc1 := 62) dX6_usedTimes_60 rfl rfl ?_
                refine k_aload_n (pc1 := 63) dX6_usedTimes_62 rfl rfl ?_
                refine k_iload (pc1 := 65) dX6_usedTimes_63 rfl rfl ?_
                refine k_iconst (pc1 := 66) dX6_usedTimes_65 rfl ?_
                refine k_callVP dX6_usedTimes_66 rfl lk_RX6_37 o_X6_of (w_X6_of hl hM99 m 3 (by omega) (by omega)) (as := [.int (iI m), .int (iI 3)]) hM99.1 rfl rfl rfl rfl (by decide) (by decide) (k8 rfl) ?_
                refine k_icmp_ge (a := dt) (b := (oF f m 3)) dX6_usedTimes_69 rfl (tgt := 127) rfl (by omega) (by omega) (fun c69 : (oF f m 3) ≤ dt => ?_) (fun c69 : dt < (oF f m 3) => ?_)
                · skip
                  refine k_iinc (a := m) (pc1 := 130) dX6_usedTimes_127 rfl rfl (by decide) (k_loc (L' := [some (.ref o), some (.int (iI rm)), some (.int (iI k)), some (.int (iI (ksm (fun t => kB (usF f rm k (t : Int))) i))), some (.int (iI ((i : Nat) : Int))), some (.int (iI ((b : Nat) : Int))), some (.int (iI (m + 1))), some (.int (iI dt))]) rfl ?_)
                  refine k_goto dX6_usedTimes_130 (tgt := 46) rfl ?_
                  refine k_forget 7 (k_loc (L' := [some (.ref o), some (.int (iI rm)), some (.int (iI k)), some (.int (iI (ksm (fun t => kB (usF f rm k (t : Int))) i))), some (.int (iI ((i : Nat) : Int))), some (.int (iI ((b : Nat) : Int))), some (.int (iI (m + 1))), none]) rfl ?_)
                  exact ih46 _ (by omega) (m + 1) b rfl (by omega) (by omega) (usI_next hB hm0 (by omega))
                · skip
                  have hi2 : inP f m dt := ⟨hm0, c54, hd0, c69⟩
                  have hdd := kWf_d hW hm0 c54 hd0 c69
                  refine k_iload (pc1 := 74) dX6_usedTimes_72 rfl rfl ?_
                  refine k_aload_n (pc1 := 75) dX6_usedTimes_74 rfl rfl ?_
                  refine k_iload (pc1 := 77) dX6_usedTimes_75 rfl rfl ?_
                  refine k_iload (pc1 := 79) dX6_usedTimes_77 rfl rfl ?_
                  refine k_iload_n (pc1 := 80) dX6_usedTimes_79 rfl rfl ?_
                  refine k_callVP dX6_usedTimes_80 rfl lk_RX6_52 o_X6_counts (w_X6_counts hl hM99 m dt k hW ⟨by omega, by omega, by omega, by omega⟩ hwm hwd (by omega)) (as := [.int (iI m), .int (iI dt), .int (iI k)]) hM99.1 rfl rfl rfl rfl (by decide) (by decide) (k8 rfl) ?_
                  refine k_if_eq (a := kB (ctF f (-1) (-1) m dt k)) dX6_usedTimes_83 rfl (tgt := 117) rfl (kB_r _) (fun c83 : kB (ctF f (-1) (-1) m dt k) = 0 => ?_) (fun c83 : kB (ctF f (-1) (-1) m dt k) ≠ 0 => ?_)
                  · replace c83 : ¬(ctF f (-1) (-1) m dt k) := kB_z.mp c83
                    refine k_iconst (pc1 := 118) dX6_usedTimes_117 rfl ?_
                    refine k_ior (pc1 := 119) dX6_usedTimes_118 rfl (k_val (v' := .int (iI (((b ||| 0) : Nat) : Int))) (congrArg Value.int iI_or) ?_)
                    refine k_istore (pc1 := 121) dX6_usedTimes_119 rfl (by decide) (k_loc (L' := [some (.ref o), some (.int (iI rm)), some (.int (iI k)), some (.int (iI (ksm (fun t => kB (usF f rm k (t : Int))) i))), some (.int (iI ((i : Nat) : Int))), some (.int (iI (((b ||| 0) : Nat) : Int))), some (.int (iI m)), some (.int (iI dt))]) rfl ?_)
                    refine k_iinc (a := dt) (pc1 := 124) dX6_usedTimes_121 rfl rfl (by decide) (k_loc (L' := [some (.ref o), some (.int (iI rm)), some (.int (iI k)), some (.int (iI (ksm (fun t => kB (usF f rm k (t : Int))) i))), some (.int (iI ((i : Nat) : Int))), some (.int (iI (((b ||| 0) : Nat) : Int))), some (.int (iI m)), some (.int (iI (dt + 1)))]) rfl ?_)
                    refine k_goto dX6_usedTimes_124 (tgt := 60) rfl ?_
                    exact ih60 _ (by omega) (dt + 1) _ rfl (by omega) (by omega) (usI_skip hB hd0 (fun z => by first | exact c83 z.1 | exact c96 z.2.1 | (have := z.2.2; omega)))
                  · replace c83 : (ctF f (-1) (-1) m dt k) := kB_nz.mp c83
                    refine k_aload_n (pc1 := 87) dX6_usedTimes_86 rfl rfl ?_
                    refine k_iload (pc1 := 89) dX6_usedTimes_87 rfl rfl ?_
                    refine k_iload (pc1 := 91) dX6_usedTimes_89 rfl rfl ?_
                    refine k_iconst (pc1 := 92) dX6_usedTimes_91 rfl ?_
                    refine k_callVP dX6_usedTimes_92 rfl lk_RX6_45 o_X6_date (w_X6_date hl hM99 m dt 3 (by omega) (by omega)) (as := [.int (iI m), .int (iI dt), .int (iI 3)]) hM99.1 rfl rfl rfl rfl (by decide) (by decide) (k8 rfl) ?_
                    refine k_iload_n (pc1 := 96) dX6_usedTimes_95 rfl rfl ?_
                    refine k_icmp_ne (a := (dF f m dt 3)) (b := rm) dX6_usedTimes_96 rfl (tgt := 117) rfl (by omega) (by omega) (fun c96 : (dF f m dt 3) ≠ rm => ?_) (fun c96 : (dF f m dt 3) = rm => ?_)
                    · skip
                      refine k_iconst (pc1 := 118) dX6_usedTimes_117 rfl ?_
                      refine k_ior (pc1 := 119) dX6_usedTimes_118 rfl (k_val (v' := .int (iI (((b ||| 0) : Nat) : Int))) (congrArg Value.int iI_or) ?_)
                      refine k_istore (pc1 := 121) dX6_usedTimes_119 rfl (by decide) (k_loc (L' := [some (.ref o), some (.int (iI rm)), some (.int (iI k)), some (.int (iI (ksm (fun t => kB (usF f rm k (t : Int))) i))), some (.int (iI ((i : Nat) : Int))), some (.int (iI (((b ||| 0) : Nat) : Int))), some (.int (iI m)), some (.int (iI dt))]) rfl ?_)
                      refine k_iinc (a := dt) (pc1 := 124) dX6_usedTimes_121 rfl rfl (by decide) (k_loc (L' := [some (.ref o), some (.int (iI rm)), some (.int (iI k)), some (.int (iI (ksm (fun t => kB (usF f rm k (t : Int))) i))), some (.int (iI ((i : Nat) : Int))), some (.int (iI (((b ||| 0) : Nat) : Int))), some (.int (iI m)), some (.int (iI (dt + 1)))]) rfl ?_)
                      refine k_goto dX6_usedTimes_124 (tgt := 60) rfl ?_
                      exact ih60 _ (by omega) (dt + 1) _ rfl (by omega) (by omega) (usI_skip hB hd0 (fun z => by first | exact c83 z.1 | exact c96 z.2.1 | (have := z.2.2; omega)))
                    · skip
                      have hbr := btF_r (t := (i : Int)) (n := 1) hW hi2 ⟨by omega, by omega⟩ (by decide)
                      refine k_aload_n (pc1 := 100) dX6_usedTimes_99 rfl rfl ?_
                      refine k_iload (pc1 := 102) dX6_usedTimes_100 rfl rfl ?_
                      refine k_iload (pc1 := 104) dX6_usedTimes_102 rfl rfl ?_
                      refine k_iload (pc1 := 106) dX6_usedTimes_104 rfl rfl ?_
                      refine k_iconst (pc1 := 107) dX6_usedTimes_106 rfl ?_
                      refine k_callVP dX6_usedTimes_107 rfl lk_RX6_55 o_X6_between (w_X6_between hl hM99 m dt ((i : Nat) : Int) 1 hW ⟨by omega, by omega, by omega, by omega⟩ ⟨by omega, by omega⟩ ⟨by omega, by omega⟩) (as := [.int (iI m), .int (iI dt), .int (iI ((i : Nat) : Int)), .int (iI 1)]) hM99.1 rfl rfl rfl rfl (by decide) (by decide) (k8 rfl) ?_
                      refine k_if_ge (a := (btF f m dt ((i : Nat) : Int) 1)) dX6_usedTimes_110 rfl (tgt := 117) rfl (by omega) (fun c110 : 0 ≤ (btF f m dt ((i : Nat) : Int) 1) => ?_) (fun c110 : (btF f m dt ((i : Nat) : Int) 1) < 0 => ?_)
                      · skip
                        refine k_iconst (pc1 := 118) dX6_usedTimes_117 rfl ?_
                        refine k_ior (pc1 := 119) dX6_usedTimes_118 rfl (k_val (v' := .int (iI (((b ||| 0) : Nat) : Int))) (congrArg Value.int iI_or) ?_)
                        refine k_istore (pc1 := 121) dX6_usedTimes_119 rfl (by decide) (k_loc (L' := [some (.ref o), some (.int (iI rm)), some (.int (iI k)), some (.int (iI (ksm (fun t => kB (usF f rm k (t : Int))) i))), some (.int (iI ((i : Nat) : Int))), some (.int (iI (((b ||| 0) : Nat) : Int))), some (.int (iI m)), some (.int (iI dt))]) rfl ?_)
                        refine k_iinc (a := dt) (pc1 := 124) dX6_usedTimes_121 rfl rfl (by decide) (k_loc (L' := [some (.ref o), some (.int (iI rm)), some (.int (iI k)), some (.int (iI (ksm (fun t => kB (usF f rm k (t : Int))) i))), some (.int (iI ((i : Nat) : Int))), some (.int (iI (((b ||| 0) : Nat) : Int))), some (.int (iI m)), some (.int (iI (dt + 1)))]) rfl ?_)
                        refine k_goto dX6_usedTimes_124 (tgt := 60) rfl ?_
                        exact ih60 _ (by omega) (dt + 1) _ rfl (by omega) (by omega) (usI_skip hB hd0 (fun z => by first | exact c83 z.1 | exact c96 z.2.1 | (have := z.2.2; omega)))
                      · skip
                        refine k_iconst (pc1 := 114) dX6_usedTimes_113 rfl ?_
                        refine k_goto dX6_usedTimes_114 (tgt := 118) rfl ?_
                        refine k_ior (pc1 := 119) dX6_usedTimes_118 rfl (k_val (v' := .int (iI (((b ||| 1) : Nat) : Int))) (congrArg Value.int iI_or) ?_)
                        refine k_istore (pc1 := 121) dX6_usedTimes_119 rfl (by decide) (k_loc (L' := [some (.ref o), some (.int (iI rm)), some (.int (iI k)), some (.int (iI (ksm (fun t => kB (usF f rm k (t : Int))) i))), some (.int (iI ((i : Nat) : Int))), some (.int (iI (((b ||| 1) : Nat) : Int))), some (.int (iI m)), some (.int (iI dt))]) rfl ?_)
                        refine k_iinc (a := dt) (pc1 := 124) dX6_usedTimes_121 rfl rfl (by decide) (k_loc (L' := [some (.ref o), some (.int (iI rm)), some (.int (iI k)), some (.int (iI (ksm (fun t => kB (usF f rm k (t : Int))) i))), some (.int (iI ((i : Nat) : Int))), some (.int (iI (((b ||| 1) : Nat) : Int))), some (.int (iI m)), some (.int (iI (dt + 1)))]) rfl ?_)
                        refine k_goto dX6_usedTimes_124 (tgt := 60) rfl ?_
                        exact ih60 _ (by omega) (dt + 1) _ rfl (by omega) (by omega) (usI_take hB hd0 ⟨c83, c96, c110⟩)
              exact hloop60 _ 0 b rfl (by omega) (by omega) hB
          exact hloop46 _ 0 0 rfl (by omega) (by omega) usI_0
      exact hloop33 _ 0 rfl (by omega)
theorem w_X6_walks {l : Launch} {G : kG} {h : kAH} {o g r : Nat} {c : Int} {f : Nat → Int} (hl : l.stackTraces = false) (hM : kMd G h o g r c (-1) (-1) f) (hW : kWf f) (p k : Int) (rp : -2147483648 ≤ p ∧ p < 2147483648) (rk : -2147483648 ≤ k ∧ k < 2147483648) : kC l G m_X6_walks 5 0 0 [.ref o, .int (iI p), .int (iI k)] h (kMt G o g r (Twalks f p k) h) kNo := by
  have hwm : -1 ≤ (-1 : Int) ∧ (-1 : Int) < 8 := by decide
  have hwd : -1 ≤ (-1 : Int) ∧ (-1 : Int) < 6 := by decide
  have h8 := kWf_cnt hW
  have h9 := kWf_nxt hW
  refine kC_of hl rfl rfl (Nat.le_of_ble_eq_true rfl) (L := [some (.ref o), some (.int (iI p)), some (.int (iI k)), none, none, none, none, none, none]) rfl ?_
  refine k_aload_n (pc1 := 1) dX6_walks_0 rfl rfl ?_
  refine k_iload_n (pc1 := 2) dX6_walks_1 rfl rfl ?_
  refine k_callSP dX6_walks_2 rfl lk_RX6_74 o_X6_isPerson (w_X6_isPerson hl p (by omega)) (as := [.int (iI p)]) rfl rfl rfl (by decide) (by decide) (k8 rfl) ?_
  refine k_if_eq (a := kB (0 ≤ p ∧ p ≤ 5)) dX6_walks_5 rfl (tgt := 19) rfl (kB_r _) (fun c5 : kB (0 ≤ p ∧ p ≤ 5) = 0 => ?_) (fun c5 : kB (0 ≤ p ∧ p ≤ 5) ≠ 0 => ?_)
  · replace c5 : ¬(0 ≤ p ∧ p ≤ 5) := kB_z.mp c5
    refine k_iconst (pc1 := 20) dX6_walks_19 rfl ?_
    refine k_callVM (c' := 1) (wm' := (-1)) (wd' := (-1)) (f' := f) (v := .int (iI 1)) dX6_walks_20 rfl lk_RX6_34 o_X6_fails hM (w_X6_failsT hl hM (by decide)) (as := [.int (iI 1)]) rfl rfl rfl (by decide) (by decide) (k8 rfl) (fun h100 hM100 hX100 => ?_)
    have hF100 := kFm_tr (kFm_rf o g r h) hX100
    refine k_if_eq (a := 1) dX6_walks_23 rfl (tgt := 28) rfl (by decide) (fun c => absurd c (by decide)) (fun _ => ?_)
    refine k_iconst (pc1 := 27) dX6_walks_26 rfl ?_
    exact k_iret dX6_walks_27 rfl rfl (kMt_mk (c1 := 1) (v1 := 0) (f1 := f) (by first | exact kI_t (by first | omega | assumption) | exact kI_f (by first | omega | assumption)) hM100 hF100)
  · replace c5 : (0 ≤ p ∧ p ≤ 5) := kB_nz.mp c5
    refine k_iload_n (pc1 := 9) dX6_walks_8 rfl rfl ?_
    refine k_callSP dX6_walks_9 rfl lk_RX6_77 o_X6_isDay (w_X6_isDay hl k (by omega)) (as := [.int (iI k)]) rfl rfl rfl (by decide) (by decide) (k8 rfl) ?_
    refine k_if_eq (a := kB (0 ≤ k ∧ k ≤ 27)) dX6_walks_12 rfl (tgt := 19) rfl (kB_r _) (fun c12 : kB (0 ≤ k ∧ k ≤ 27) = 0 => ?_) (fun c12 : kB (0 ≤ k ∧ k ≤ 27) ≠ 0 => ?_)
    · replace c12 : ¬(0 ≤ k ∧ k ≤ 27) := kB_z.mp c12
      refine k_iconst (pc1 := 20) dX6_walks_19 rfl ?_
      refine k_callVM (c' := 1) (wm' := (-1)) (wd' := (-1)) (f' := f) (v := .int (iI 1)) dX6_walks_20 rfl lk_RX6_34 o_X6_fails hM (w_X6_failsT hl hM (by decide)) (as := [.int (iI 1)]) rfl rfl rfl (by decide) (by decide) (k8 rfl) (fun h101 hM101 hX101 => ?_)
      have hF101 := kFm_tr (kFm_rf o g r h) hX101
      refine k_if_eq (a := 1) dX6_walks_23 rfl (tgt := 28) rfl (by decide) (fun c => absurd c (by decide)) (fun _ => ?_)
      refine k_iconst (pc1 := 27) dX6_walks_26 rfl ?_
      exact k_iret dX6_walks_27 rfl rfl (kMt_mk (c1 := 1) (v1 := 0) (f1 := f) (by first | exact kI_t (by first | omega | assumption) | exact kI_f (by first | omega | assumption)) hM101 hF101)
    · replace c12 : (0 ≤ k ∧ k ≤ 27) := kB_nz.mp c12
      refine k_iconst (pc1 := 16) dX6_walks_15 rfl ?_
      refine k_goto dX6_walks_16 (tgt := 20) rfl ?_
      refine k_callVM (c' := 0) (wm' := (-1)) (wd' := (-1)) (f' := f) (v := .int (iI 0)) dX6_walks_20 rfl lk_RX6_34 o_X6_fails hM (w_X6_failsF hl hM) (as := [.int (iI 0)]) rfl rfl rfl (by decide) (by decide) (k8 rfl) (fun h102 hM102 hX102 => ?_)
      have hF102 := kFm_tr (kFm_rf o g r h) hX102
      refine k_if_eq (a := 0) dX6_walks_23 rfl (tgt := 28) rfl (by decide) (fun _ => ?_) (fun c => absurd c (by decide))
      refine k_iconst (pc1 := 29) dX6_walks_28 rfl ?_
      refine k_istore_n (pc1 := 30) dX6_walks_29 rfl (by decide) (k_loc (L' := [some (.ref o), some (.int (iI p)), some (.int (iI k)), some (.int (iI 0)), none, none, none, none, none]) rfl ?_)
      refine k_iconst (pc1 := 31) dX6_walks_30 rfl ?_
      refine k_istore (pc1 := 33) dX6_walks_31 rfl (by decide) (k_loc (L' := [some (.ref o), some (.int (iI p)), some (.int (iI k)), some (.int (iI 0)), some (.int (iI (-1))), none, none, none, none]) rfl ?_)
      refine k_iconst (pc1 := 34) dX6_walks_33 rfl ?_
      refine k_istore (pc1 := 36) dX6_walks_34 rfl (by decide) (k_loc (L' := [some (.ref o), some (.int (iI p)), some (.int (iI k)), some (.int (iI 0)), some (.int (iI (-1))), some (.int (iI 0)), none, none, none]) rfl ?_)
      have hloop36 : ∀ (zz : Nat) (i : Nat), zz = 16 - i → (i ≤ 16) → kW l G m_X6_walks 5 (kMt G o g r (Twalks f p k) h) kNo 0 0 36 [some (.ref o), some (.int (iI p)), some (.int (iI k)), some (.int (iI ((wkF (fun t => hsF f p k (t : Int)) i).1))), some (.int (iI ((wkF (fun t => hsF f p k (t : Int)) i).2))), some (.int (iI ((i : Nat) : Int))), none, none, none] [] h102 := by
        intro zz
        induction zz using Nat.strongRecOn with
        | ind zz ih36 =>
        intro i hr36 hi
        refine k_iload (pc1 := 38) dX6_walks_36 rfl rfl ?_
        refine k_bipush 16 (pc1 := 40) dX6_walks_38 rfl (by decide) ?_
        refine k_icmp_ge (a := ((i : Nat) : Int)) (b := 16) dX6_walks_40 rfl (tgt := 172) rfl (by omega) (by decide) (fun c40 : 16 ≤ ((i : Nat) : Int) => ?_) (fun c40 : ((i : Nat) : Int) < 16 => ?_)
        · skip
          refine k_iload_n (pc1 := 173) dX6_walks_172 rfl rfl ?_
          exact k_iret dX6_walks_173 rfl rfl (kMt_mk (c1 := 0) (v1 := (wkF (fun t => hsF f p k (t : Int)) i).1) (f1 := f) (by have e : i = 16 := (by omega); subst e; exact kI_t (by omega)) hM102 hF102)
        · skip
          refine k_iconst (pc1 := 44) dX6_walks_43 rfl ?_
          refine k_istore (pc1 := 46) dX6_walks_44 rfl (by decide) (k_loc (L' := [some (.ref o), some (.int (iI p)), some (.int (iI k)), some (.int (iI ((wkF (fun t => hsF f p k (t : Int)) i).1))), some (.int (iI ((wkF (fun t => hsF f p k (t : Int)) i).2))), some (.int (iI ((i : Nat) : Int))), some (.int (iI 0)), none, none]) rfl ?_)
          have hloop46 : ∀ (zz : Nat) (m : Int) (x : Int × Int), zz = (f 1 - m).toNat → (0 ≤ m) → (m ≤ f 1) → (waI f p k (i : Int) m 0 (wkF (fun t => hsF f p k (t : Int)) i) x) → (-1 ≤ x.2 ∧ x.2 ≤ 1) → kW l G m_X6_walks 5 (kMt G o g r (Twalks f p k) h) kNo 0 0 46 [some (.ref o), some (.int (iI p)), some (.int (iI k)), some (.int (iI x.1)), some (.int (iI x.2)), some (.int (iI ((i : Nat) : Int))), some (.int (iI m)), none, none] [] h102 := by
            intro zz
            induction zz using Nat.strongRecOn with
            | ind zz ih46 =>
            intro m x hr46 hm0 hm1 hB hx
            refine k_iload (pc1 := 48) dX6_walks_46 rfl rfl ?_
            refine k_aload_n (pc1 := 49) dX6_walks_48 rfl rfl ?_
            refine k_get (pc1 := 52) dX6_walks_49 rfl fd_RX6_7 hM102.1 (v := .ref g) rfl ?_
            refine k_iconst (pc1 := 53) dX6_walks_52 rfl ?_
            refine k_iald (i := 1) (f := f) (pc1 := 54) dX6_walks_53 rfl hM102.2.1 (N := 380) (by omega) (by omega) (by decide) (k_val (v' := .int (iI (f 1))) rfl ?_)
            refine k_icmp_ge (a := m) (b := (f 1)) dX6_walks_54 rfl (tgt := 166) rfl (by omega) (by omega) (fun c54 : (f 1) ≤ m => ?_) (fun c54 : m < (f 1) => ?_)
            · skip
              refine k_iinc (a := ((i : Nat) : Int)) (pc1 := 169) dX6_walks_166 rfl rfl (by decide) (k_loc (L' := [some (.ref o), some (.int (iI p)), some (.int (iI k)), some (.int (iI x.1)), some (.int (iI x.2)), some (.int (iI (((i : Nat) : Int) + 1))), some (.int (iI m)), none, none]) rfl ?_)
              refine k_goto dX6_walks_169 (tgt := 36) rfl ?_
              refine k_forget 6 (k_loc (L' := [some (.ref o), some (.int (iI p)), some (.int (iI k)), some (.int (iI x.1)), some (.int (iI x.2)), some (.int (iI (((i : Nat) : Int) + 1))), none, none, none]) rfl ?_)
              have e := waI_end hW ⟨by omega, by omega⟩ hB (show m = f 1 by omega)
              subst e
              exact ih36 _ (by omega) (i + 1) rfl (by omega)
            · skip
              have hm := kWf_m hW hm0 c54
              refine k_iconst (pc1 := 58) dX6_walks_57 rfl ?_
              refine k_istore (pc1 := 60) dX6_walks_58 rfl (by decide) (k_loc (L' := [some (.ref o), some (.int (iI p)), some (.int (iI k)), some (.int (iI x.1)), some (.int (iI x.2)), some (.int (iI ((i : Nat) : Int))), some (.int (iI m)), some (.int (iI 0)), none]) rfl ?_)
              have hloop60 : ∀ (zz : Nat) (dt : Int) (x : Int × Int), zz = (oF f m 3 - dt).toNat → (0 ≤ dt) → (dt ≤ oF f m 3) → (waI f p k (i : Int) m dt (wkF (fun t => hsF f p k (t : Int)) i) x) → (-1 ≤ x.2 ∧ x.2 ≤ 1) → kW l G m_X6_walks 5 (kMt G o g r (Twalks f p k) h) kNo 0 0 60 [some (.ref o), some (.int (iI p)), some (.int (iI k)), some (.int (iI x.1)), some (.int (iI x.2)), some (.int (iI ((i : Nat) : Int))), some (.int (iI m)), some (.int (iI dt)), none] [] h102 := by
                intro zz
                induction zz using Nat.strongRecOn with
                | ind zz ih60 =>
                intro dt x hr60 hd0 hd1 hB hx
                refine k_iload (pc1 := 62) dX6_walks_60 rfl rfl ?_
                refine k_aload_n (pc1 := 63) dX6_walks_62 rfl rfl ?_
                refine k_iload (pc1 := 65) dX6_walks_63 rfl rfl ?_
                refine k_iconst (pc1 := 66) dX6_walks_65 rfl ?_
                refine k_callVP dX6_walks_66 rfl lk_RX6_37 o_X6_of (w_X6_of hl hM102 m 3 (by omega) (by omega)) (as := [.int (iI m), .int (iI 3)]) hM102.1 rfl rfl rfl rfl (by decide) (by decide) (k8 rfl) ?_
                refine k_icmp_ge (a := dt) (b := (oF f m 3)) dX6_walks_69 rfl (tgt := 160) rfl (by omega) (by omega) (fun c69 : (oF f m 3) ≤ dt => ?_) (fun c69 : dt < (oF f m 3) => ?_)
                · skip
                  refine k_iinc (a := m) (pc1 := 163) dX6_walks_160 rfl rfl (by decide) (k_loc (L' := [some (.ref o), some (.int (iI p)), some (.int (iI k)), some (.int (iI x.1)), some (.int (iI x.2)), some (.int (iI ((i : Nat) : Int))), some (.int (iI (m + 1))), some (.int (iI dt)), none]) rfl ?_)
                  refine k_goto dX6_walks_163 (tgt := 46) rfl ?_
                  refine k_forget 7 (k_loc (L' := [some (.ref o), some (.int (iI p)), some (.int (iI k)), some (.int (iI x.1)), some (.int (iI x.2)), some (.int (iI ((i : Nat) : Int))), some (.int (iI (m + 1))), none, none]) rfl ?_)
                  exact ih46 _ (by omega) (m + 1) x rfl (by omega) (by omega) (waI_next hB hm0 (by omega)) hx
                · skip
                  have hi2 : inP f m dt := ⟨hm0, c54, hd0, c69⟩
                  have hdd := kWf_d hW hm0 c54 hd0 c69
                  refine k_aload_n (pc1 := 73) dX6_walks_72 rfl rfl ?_
                  refine k_iload (pc1 := 75) dX6_walks_73 rfl rfl ?_
                  refine k_iload_n (pc1 := 76) dX6_walks_75 rfl rfl ?_
                  refine k_callVP dX6_walks_76 rfl lk_RX6_41 o_X6_isExpected (w_X6_isExpected hl hM102 m p hW (by omega) (by omega) (by omega) (by omega)) (as := [.int (iI m), .int (iI p)]) hM102.1 rfl rfl rfl rfl (by decide) (by decide) (k8 rfl) ?_
                  refine k_if_eq (a := kB (exF f m p)) dX6_walks_79 rfl (tgt := 154) rfl (kB_r _) (fun c79 : kB (exF f m p) = 0 => ?_) (fun c79 : kB (exF f m p) ≠ 0 => ?_)
                  · replace c79 : ¬(exF f m p) := kB_z.mp c79
                    refine k_iinc (a := dt) (pc1 := 157) dX6_walks_154 rfl rfl (by decide) (k_loc (L' := [some (.ref o), some (.int (iI p)), some (.int (iI k)), some (.int (iI x.1)), some (.int (iI x.2)), some (.int (iI ((i : Nat) : Int))), some (.int (iI m)), some (.int (iI (dt + 1))), none]) rfl ?_)
                    refine k_goto dX6_walks_157 (tgt := 60) rfl ?_
                    exact ih60 _ (by omega) (dt + 1) x rfl (by omega) (by omega) (waI_skip hB hd0 (fun z => by first | exact c79 z.1 | exact c91 z.2.1 | (have := z.2.2; omega))) hx
                  · replace c79 : (exF f m p) := kB_nz.mp c79
                    refine k_aload_n (pc1 := 83) dX6_walks_82 rfl rfl ?_
                    refine k_iload (pc1 := 85) dX6_walks_83 rfl rfl ?_
                    refine k_iload (pc1 := 87) dX6_walks_85 rfl rfl ?_
                    refine k_iload_n (pc1 := 88) dX6_walks_87 rfl rfl ?_
                    refine k_callVP dX6_walks_88 rfl lk_RX6_52 o_X6_counts (w_X6_counts hl hM102 m dt k hW ⟨by omega, by omega, by omega, by omega⟩ hwm hwd (by omega)) (as := [.int (iI m), .int (iI dt), .int (iI k)]) hM102.1 rfl rfl rfl rfl (by decide) (by decide) (k8 rfl) ?_
                    refine k_if_eq (a := kB (ctF f (-1) (-1) m dt k)) dX6_walks_91 rfl (tgt := 154) rfl (kB_r _) (fun c91 : kB (ctF f (-1) (-1) m dt k) = 0 => ?_) (fun c91 : kB (ctF f (-1) (-1) m dt k) ≠ 0 => ?_)
                    · replace c91 : ¬(ctF f (-1) (-1) m dt k) := kB_z.mp c91
                      refine k_iinc (a := dt) (pc1 := 157) dX6_walks_154 rfl rfl (by decide) (k_loc (L' := [some (.ref o), some (.int (iI p)), some (.int (iI k)), some (.int (iI x.1)), some (.int (iI x.2)), some (.int (iI ((i : Nat) : Int))), some (.int (iI m)), some (.int (iI (dt + 1))), none]) rfl ?_)
                      refine k_goto dX6_walks_157 (tgt := 60) rfl ?_
                      exact ih60 _ (by omega) (dt + 1) x rfl (by omega) (by omega) (waI_skip hB hd0 (fun z => by first | exact c79 z.1 | exact c91 z.2.1 | (have := z.2.2; omega))) hx
                    · replace c91 : (ctF f (-1) (-1) m dt k) := kB_nz.mp c91
                      refine k_aload_n (pc1 := 95) dX6_walks_94 rfl rfl ?_
                      refine k_iload (pc1 := 97) dX6_walks_95 rfl rfl ?_
                      refine k_iload (pc1 := 99) dX6_walks_97 rfl rfl ?_
                      refine k_iconst (pc1 := 100) dX6_walks_99 rfl ?_
                      refine k_callVP dX6_walks_100 rfl lk_RX6_45 o_X6_date (w_X6_date hl hM102 m dt 1 (by omega) (by omega)) (as := [.int (iI m), .int (iI dt), .int (iI 1)]) hM102.1 rfl rfl rfl rfl (by decide) (by decide) (k8 rfl) ?_
                      refine k_iload (pc1 := 105) dX6_walks_103 rfl rfl ?_
                      refine k_icmp_eq (a := (dF f m dt 1)) (b := ((i : Nat) : Int)) dX6_walks_105 rfl (tgt := 111) rfl (by omega) (by omega) (fun c105 : (dF f m dt 1) = ((i : Nat) : Int) => ?_) (fun c105 : (dF f m dt 1) ≠ ((i : Nat) : Int) => ?_)
                      · skip
                        refine k_aload_n (pc1 := 112) dX6_walks_111 rfl rfl ?_
                        refine k_get (pc1 := 115) dX6_walks_112 rfl fd_RX6_7 hM102.1 (v := .ref g) rfl ?_
                        refine k_bipush 9 (pc1 := 117) dX6_walks_115 rfl (by decide) ?_
                        refine k_aload_n (pc1 := 118) dX6_walks_117 rfl rfl ?_
                        refine k_iload (pc1 := 120) dX6_walks_118 rfl rfl ?_
                        refine k_iload (pc1 := 122) dX6_walks_120 rfl rfl ?_
                        refine k_iconst (pc1 := 123) dX6_walks_122 rfl ?_
                        refine k_callVP dX6_walks_123 rfl lk_RX6_45 o_X6_date (w_X6_date hl hM102 m dt 3 (by omega) (by omega)) (as := [.int (iI m), .int (iI dt), .int (iI 3)]) hM102.1 rfl rfl rfl rfl (by decide) (by decide) (k8 rfl) ?_
                        refine k_iadd (a := 9) (b := (dF f m dt 3)) (pc1 := 127) dX6_walks_126 rfl ?_
                        have hr5 := kWf_room hW (r := dF f m dt 3) (by omega) (by omega)
                        refine k_iald (i := (9 + (dF f m dt 3))) (f := f) (pc1 := 128) dX6_walks_127 rfl hM102.2.1 (N := 380) (by omega) (by omega) (by decide) (k_val (v' := .int (iI (f (9 + (dF f m dt 3)).toNat))) rfl ?_)
                        refine k_istore (pc1 := 130) dX6_walks_128 rfl (by decide) (k_loc (L' := [some (.ref o), some (.int (iI p)), some (.int (iI k)), some (.int (iI x.1)), some (.int (iI x.2)), some (.int (iI ((i : Nat) : Int))), some (.int (iI m)), some (.int (iI dt)), some (.int (iI (f (9 + (dF f m dt 3)).toNat)))]) rfl ?_)
                        refine k_iload_n (pc1 := 131) dX6_walks_130 rfl rfl ?_
                        refine k_iload (pc1 := 133) dX6_walks_131 rfl rfl ?_
                        refine k_if_lt (a := x.2) dX6_walks_133 rfl (tgt := 147) rfl (by omega) (fun c133 : x.2 < 0 => ?_) (fun c133 : ¬ x.2 < 0 => ?_)
                        · skip
                          refine k_iconst (pc1 := 148) dX6_walks_147 rfl ?_
                          refine k_iadd (a := x.1) (b := 0) (pc1 := 149) dX6_walks_148 rfl ?_
                          refine k_istore_n (pc1 := 150) dX6_walks_149 rfl (by decide) (k_loc (L' := [some (.ref o), some (.int (iI p)), some (.int (iI k)), some (.int (iI (x.1 + 0))), some (.int (iI x.2)), some (.int (iI ((i : Nat) : Int))), some (.int (iI m)), some (.int (iI dt)), some (.int (iI (f (9 + (dF f m dt 3)).toNat)))]) rfl ?_)
                          refine k_iload (pc1 := 152) dX6_walks_150 rfl rfl ?_
                          refine k_istore (pc1 := 154) dX6_walks_152 rfl (by decide) (k_loc (L' := [some (.ref o), some (.int (iI p)), some (.int (iI k)), some (.int (iI (x.1 + 0))), some (.int (iI (f (9 + (dF f m dt 3)).toNat))), some (.int (iI ((i : Nat) : Int))), some (.int (iI m)), some (.int (iI dt)), some (.int (iI (f (9 + (dF f m dt 3)).toNat)))]) rfl ?_)
                          refine k_iinc (a := dt) (pc1 := 157) dX6_walks_154 rfl rfl (by decide) (k_loc (L' := [some (.ref o), some (.int (iI p)), some (.int (iI k)), some (.int (iI (x.1 + 0))), some (.int (iI (f (9 + (dF f m dt 3)).toNat))), some (.int (iI ((i : Nat) : Int))), some (.int (iI m)), some (.int (iI (dt + 1))), some (.int (iI (f (9 + (dF f m dt 3)).toNat)))]) rfl ?_)
                          refine k_goto dX6_walks_157 (tgt := 60) rfl ?_
                          refine k_forget 8 (k_loc (L' := [some (.ref o), some (.int (iI p)), some (.int (iI k)), some (.int (iI (x.1 + 0))), some (.int (iI (f (9 + (dF f m dt 3)).toNat))), some (.int (iI ((i : Nat) : Int))), some (.int (iI m)), some (.int (iI (dt + 1))), none]) rfl ?_)
                          have e1 : (wkS (f (9 + dF f m dt 3).toNat) x).1 = (x.1 + 0) := by
                            rw [wkS_eq (n := x.1) (x := x.2) (by omega)]
                            show kI _ _ _ = _
                            first | rw [kI_t (by omega)] | (rw [kI_f (by omega)]; try omega)
                          have e2 : (wkS (f (9 + dF f m dt 3).toNat) x).2 = (f (9 + dF f m dt 3).toNat) := by
                            rw [wkS_eq (n := x.1) (x := x.2) (by omega)]
                          refine k_loc (L' := [some (.ref o), some (.int (iI p)), some (.int (iI k)), some (.int (iI ((wkS (f (9 + dF f m dt 3).toNat) x).1))), some (.int (iI ((wkS (f (9 + dF f m dt 3).toNat) x).2))), some (.int (iI ((i : Nat) : Int))), some (.int (iI m)), some (.int (iI (dt + 1))), none]) (by rw [e1, e2]) ?_
                          exact ih60 _ (by omega) (dt + 1) (wkS (f (9 + dF f m dt 3).toNat) x) rfl (by omega) (by omega) (waI_take hW ⟨by omega, by omega⟩ hB hi2 ⟨c79, c91, by omega⟩) (wkS_r ⟨by omega, by omega⟩)
                        · skip
                          refine k_iload (pc1 := 138) dX6_walks_136 rfl rfl ?_
                          refine k_iload (pc1 := 140) dX6_walks_138 rfl rfl ?_
                          refine k_icmp_eq (a := x.2) (b := (f (9 + (dF f m dt 3)).toNat)) dX6_walks_140 rfl (tgt := 147) rfl (by omega) (by omega) (fun c140 : x.2 = (f (9 + (dF f m dt 3)).toNat) => ?_) (fun c140 : x.2 ≠ (f (9 + (dF f m dt 3)).toNat) => ?_)
                          · skip
                            refine k_iconst (pc1 := 148) dX6_walks_147 rfl ?_
                            refine k_iadd (a := x.1) (b := 0) (pc1 := 149) dX6_walks_148 rfl ?_
                            refine k_istore_n (pc1 := 150) dX6_walks_149 rfl (by decide) (k_loc (L' := [some (.ref o), some (.int (iI p)), some (.int (iI k)), some (.int (iI (x.1 + 0))), some (.int (iI x.2)), some (.int (iI ((i : Nat) : Int))), some (.int (iI m)), some (.int (iI dt)), some (.int (iI (f (9 + (dF f m dt 3)).toNat)))]) rfl ?_)
                            refine k_iload (pc1 := 152) dX6_walks_150 rfl rfl ?_
                            refine k_istore (pc1 := 154) dX6_walks_152 rfl (by decide) (k_loc (L' := [some (.ref o), some (.int (iI p)), some (.int (iI k)), some (.int (iI (x.1 + 0))), some (.int (iI (f (9 + (dF f m dt 3)).toNat))), some (.int (iI ((i : Nat) : Int))), some (.int (iI m)), some (.int (iI dt)), some (.int (iI (f (9 + (dF f m dt 3)).toNat)))]) rfl ?_)
                            refine k_iinc (a := dt) (pc1 := 157) dX6_walks_154 rfl rfl (by decide) (k_loc (L' := [some (.ref o), some (.int (iI p)), some (.int (iI k)), some (.int (iI (x.1 + 0))), some (.int (iI (f (9 + (dF f m dt 3)).toNat))), some (.int (iI ((i : Nat) : Int))), some (.int (iI m)), some (.int (iI (dt + 1))), some (.int (iI (f (9 + (dF f m dt 3)).toNat)))]) rfl ?_)
                            refine k_goto dX6_walks_157 (tgt := 60) rfl ?_
                            refine k_forget 8 (k_loc (L' := [some (.ref o), some (.int (iI p)), some (.int (iI k)), some (.int (iI (x.1 + 0))), some (.int (iI (f (9 + (dF f m dt 3)).toNat))), some (.int (iI ((i : Nat) : Int))), some (.int (iI m)), some (.int (iI (dt + 1))), none]) rfl ?_)
                            have e1 : (wkS (f (9 + dF f m dt 3).toNat) x).1 = (x.1 + 0) := by
                              rw [wkS_eq (n := x.1) (x := x.2) (by omega)]
                              show kI _ _ _ = _
                              first | rw [kI_t (by omega)] | (rw [kI_f (by omega)]; try omega)
                            have e2 : (wkS (f (9 + dF f m dt 3).toNat) x).2 = (f (9 + dF f m dt 3).toNat) := by
                              rw [wkS_eq (n := x.1) (x := x.2) (by omega)]
                            refine k_loc (L' := [some (.ref o), some (.int (iI p)), some (.int (iI k)), some (.int (iI ((wkS (f (9 + dF f m dt 3).toNat) x).1))), some (.int (iI ((wkS (f (9 + dF f m dt 3).toNat) x).2))), some (.int (iI ((i : Nat) : Int))), some (.int (iI m)), some (.int (iI (dt + 1))), none]) (by rw [e1, e2]) ?_
                            exact ih60 _ (by omega) (dt + 1) (wkS (f (9 + dF f m dt 3).toNat) x) rfl (by omega) (by omega) (waI_take hW ⟨by omega, by omega⟩ hB hi2 ⟨c79, c91, by omega⟩) (wkS_r ⟨by omega, by omega⟩)
                          · skip
                            refine k_iconst (pc1 := 144) dX6_walks_143 rfl ?_
                            refine k_goto dX6_walks_144 (tgt := 148) rfl ?_
                            refine k_iadd (a := x.1) (b := 1) (pc1 := 149) dX6_walks_148 rfl ?_
                            refine k_istore_n (pc1 := 150) dX6_walks_149 rfl (by decide) (k_loc (L' := [some (.ref o), some (.int (iI p)), some (.int (iI k)), some (.int (iI (x.1 + 1))), some (.int (iI x.2)), some (.int (iI ((i : Nat) : Int))), some (.int (iI m)), some (.int (iI dt)), some (.int (iI (f (9 + (dF f m dt 3)).toNat)))]) rfl ?_)
                            refine k_iload (pc1 := 152) dX6_walks_150 rfl rfl ?_
                            refine k_istore (pc1 := 154) dX6_walks_152 rfl (by decide) (k_loc (L' := [some (.ref o), some (.int (iI p)), some (.int (iI k)), some (.int (iI (x.1 + 1))), some (.int (iI (f (9 + (dF f m dt 3)).toNat))), some (.int (iI ((i : Nat) : Int))), some (.int (iI m)), some (.int (iI dt)), some (.int (iI (f (9 + (dF f m dt 3)).toNat)))]) rfl ?_)
                            refine k_iinc (a := dt) (pc1 := 157) dX6_walks_154 rfl rfl (by decide) (k_loc (L' := [some (.ref o), some (.int (iI p)), some (.int (iI k)), some (.int (iI (x.1 + 1))), some (.int (iI (f (9 + (dF f m dt 3)).toNat))), some (.int (iI ((i : Nat) : Int))), some (.int (iI m)), some (.int (iI (dt + 1))), some (.int (iI (f (9 + (dF f m dt 3)).toNat)))]) rfl ?_)
                            refine k_goto dX6_walks_157 (tgt := 60) rfl ?_
                            refine k_forget 8 (k_loc (L' := [some (.ref o), some (.int (iI p)), some (.int (iI k)), some (.int (iI (x.1 + 1))), some (.int (iI (f (9 + (dF f m dt 3)).toNat))), some (.int (iI ((i : Nat) : Int))), some (.int (iI m)), some (.int (iI (dt + 1))), none]) rfl ?_)
                            have e1 : (wkS (f (9 + dF f m dt 3).toNat) x).1 = (x.1 + 1) := by
                              rw [wkS_eq (n := x.1) (x := x.2) (by omega)]
                              show kI _ _ _ = _
                              first | rw [kI_t (by omega)] | (rw [kI_f (by omega)]; try omega)
                            have e2 : (wkS (f (9 + dF f m dt 3).toNat) x).2 = (f (9 + dF f m dt 3).toNat) := by
                              rw [wkS_eq (n := x.1) (x := x.2) (by omega)]
                            refine k_loc (L' := [some (.ref o), some (.int (iI p)), some (.int (iI k)), some (.int (iI ((wkS (f (9 + dF f m dt 3).toNat) x).1))), some (.int (iI ((wkS (f (9 + dF f m dt 3).toNat) x).2))), some (.int (iI ((i : Nat) : Int))), some (.int (iI m)), some (.int (iI (dt + 1))), none]) (by rw [e1, e2]) ?_
                            exact ih60 _ (by omega) (dt + 1) (wkS (f (9 + dF f m dt 3).toNat) x) rfl (by omega) (by omega) (waI_take hW ⟨by omega, by omega⟩ hB hi2 ⟨c79, c91, by omega⟩) (wkS_r ⟨by omega, by omega⟩)
                      · skip
                        refine k_goto dX6_walks_108 (tgt := 154) rfl ?_
                        refine k_iinc (a := dt) (pc1 := 157) dX6_walks_154 rfl rfl (by decide) (k_loc (L' := [some (.ref o), some (.int (iI p)), some (.int (iI k)), some (.int (iI x.1)), some (.int (iI x.2)), some (.int (iI ((i : Nat) : Int))), some (.int (iI m)), some (.int (iI (dt + 1))), none]) rfl ?_)
                        refine k_goto dX6_walks_157 (tgt := 60) rfl ?_
                        exact ih60 _ (by omega) (dt + 1) x rfl (by omega) (by omega) (waI_skip hB hd0 (fun z => by first | exact c79 z.1 | exact c91 z.2.1 | (have := z.2.2; omega))) hx
              exact hloop60 _ 0 x rfl (by omega) (by omega) hB hx
          exact hloop46 _ 0 (wkF (fun t => hsF f p k (t : Int)) i) rfl (by omega) (by omega) waI_0 ⟨(wkF_r (fun t => hsF f p k (t : Int)) (fun t => hsF_r f p k (t : Int)) i).2.2.1, (wkF_r (fun t => hsF f p k (t : Int)) (fun t => hsF_r f p k (t : Int)) i).2.2.2⟩
      exact hloop36 _ 0 rfl (by omega)
