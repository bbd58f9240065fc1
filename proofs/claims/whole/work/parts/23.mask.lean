/-! ===== the reference: ask, extend, shares, walked ===== -/
theorem w_X6_ask {l : Launch} {G : kG} {h : kAH} {o g r : Nat} {c : Int} {f : Nat → Int} (hl : l.stackTraces = false) (hM : kMd G h o g r c (-1) (-1) f) (hW : kWf f) (host a k t n : Int) (rhost : -2147483648 ≤ host ∧ host < 2147483648) (ra : -2147483648 ≤ a ∧ a < 2147483648) (rk : -2147483648 ≤ k ∧ k < 2147483648) (rt : -2147483648 ≤ t ∧ t < 2147483648) (rn : -2147483648 ≤ n ∧ n < 2147483648) : kC l G m_X6_ask 7 0 0 [.ref o, .int (iI host), .int (iI a), .int (iI k), .int (iI t), .int (iI n)] h (kMt G o g r (Task f host a k t n) h) kNo := by
  have hwm : -1 ≤ (-1 : Int) ∧ (-1 : Int) < 8 := by decide
  have hwd : -1 ≤ (-1 : Int) ∧ (-1 : Int) < 6 := by decide
  have h8 := kWf_cnt hW
  have h9 := kWf_nxt hW
  refine kC_of hl rfl rfl (Nat.le_of_ble_eq_true rfl) (L := [some (.ref o), some (.int (iI host)), some (.int (iI a)), some (.int (iI k)), some (.int (iI t)), some (.int (iI n)), none, none, none, none, none, none]) rfl ?_
  refine k_iload_n (pc1 := 1) dX6_ask_0 rfl rfl ?_
  refine k_callSP dX6_ask_1 rfl lk_RX6_74 o_X6_isPerson (w_X6_isPerson hl host (by omega)) (as := [.int (iI host)]) rfl rfl rfl (by decide) (by decide) (k8 rfl) ?_
  refine k_if_eq (a := kB (0 ≤ host ∧ host ≤ 5)) dX6_ask_4 rfl (tgt := 57) rfl (kB_r _) (fun c4 : kB (0 ≤ host ∧ host ≤ 5) = 0 => ?_) (fun c4 : kB (0 ≤ host ∧ host ≤ 5) ≠ 0 => ?_)
  · replace c4 : ¬(0 ≤ host ∧ host ≤ 5) := kB_z.mp c4
    refine k_iconst (pc1 := 58) dX6_ask_57 rfl ?_
    refine k_istore (pc1 := 60) dX6_ask_58 rfl (by decide) (k_loc (L' := [some (.ref o), some (.int (iI host)), some (.int (iI a)), some (.int (iI k)), some (.int (iI t)), some (.int (iI n)), some (.int (iI 0)), none, none, none, none, none]) rfl ?_)
    refine k_aload_n (pc1 := 61) dX6_ask_60 rfl rfl ?_
    refine k_iload (pc1 := 63) dX6_ask_61 rfl rfl ?_
    refine k_if_ne (a := 0) dX6_ask_63 rfl (tgt := 70) rfl (by decide) (fun c => absurd c (by decide)) (fun _ => ?_)
    refine k_iconst (pc1 := 67) dX6_ask_66 rfl ?_
    refine k_goto dX6_ask_67 (tgt := 86) rfl ?_
    refine k_callVM (c' := 1) (wm' := (-1)) (wd' := (-1)) (f' := f) (v := .int (iI 1)) dX6_ask_86 rfl lk_RX6_34 o_X6_fails hM (w_X6_failsT hl hM (by decide)) (as := [.int (iI 1)]) rfl rfl rfl (by decide) (by decide) (k8 rfl) (fun h168 hM168 hX168 => ?_)
    have hF168 := kFm_tr (kFm_rf o g r h) hX168
    refine k_if_eq (a := 1) dX6_ask_89 rfl (tgt := 94) rfl (by decide) (fun c => absurd c (by decide)) (fun _ => ?_)
    refine k_iconst (pc1 := 93) dX6_ask_92 rfl ?_
    exact k_iret dX6_ask_93 rfl rfl (kMt_mk (c1 := 1) (v1 := 0) (f1 := f) (by unfold Task; first | exact kI_f (by omega) | (rw [kI_t (by omega)]; first | exact kI_t (by omega) | (rw [kI_f (by omega)]; first | exact kI_t (by omega) | (rw [kI_f (by omega)]; first | exact kI_t (by omega) | exact kI_f (by omega))))) hM168 hF168)
  · replace c4 : (0 ≤ host ∧ host ≤ 5) := kB_nz.mp c4
    refine k_iload_n (pc1 := 8) dX6_ask_7 rfl rfl ?_
    refine k_iconst (pc1 := 9) dX6_ask_8 rfl ?_
    refine k_bipush 63 (pc1 := 11) dX6_ask_9 rfl (by decide) ?_
    refine k_callSP dX6_ask_11 rfl lk_RX6_26 o_X6_in (w_X6_in hl a 0 63 (by omega) (by decide) (by decide)) (as := [.int (iI a), .int (iI 0), .int (iI 63)]) rfl rfl rfl (by decide) (by decide) (k8 rfl) ?_
    refine k_if_eq (a := kB (0 ≤ a ∧ a ≤ 63)) dX6_ask_14 rfl (tgt := 57) rfl (kB_r _) (fun c14 : kB (0 ≤ a ∧ a ≤ 63) = 0 => ?_) (fun c14 : kB (0 ≤ a ∧ a ≤ 63) ≠ 0 => ?_)
    · replace c14 : ¬(0 ≤ a ∧ a ≤ 63) := kB_z.mp c14
      refine k_iconst (pc1 := 58) dX6_ask_57 rfl ?_
      refine k_istore (pc1 := 60) dX6_ask_58 rfl (by decide) (k_loc (L' := [some (.ref o), some (.int (iI host)), some (.int (iI a)), some (.int (iI k)), some (.int (iI t)), some (.int (iI n)), some (.int (iI 0)), none, none, none, none, none]) rfl ?_)
      refine k_aload_n (pc1 := 61) dX6_ask_60 rfl rfl ?_
      refine k_iload (pc1 := 63) dX6_ask_61 rfl rfl ?_
      refine k_if_ne (a := 0) dX6_ask_63 rfl (tgt := 70) rfl (by decide) (fun c => absurd c (by decide)) (fun _ => ?_)
      refine k_iconst (pc1 := 67) dX6_ask_66 rfl ?_
      refine k_goto dX6_ask_67 (tgt := 86) rfl ?_
      refine k_callVM (c' := 1) (wm' := (-1)) (wd' := (-1)) (f' := f) (v := .int (iI 1)) dX6_ask_86 rfl lk_RX6_34 o_X6_fails hM (w_X6_failsT hl hM (by decide)) (as := [.int (iI 1)]) rfl rfl rfl (by decide) (by decide) (k8 rfl) (fun h169 hM169 hX169 => ?_)
      have hF169 := kFm_tr (kFm_rf o g r h) hX169
      refine k_if_eq (a := 1) dX6_ask_89 rfl (tgt := 94) rfl (by decide) (fun c => absurd c (by decide)) (fun _ => ?_)
      refine k_iconst (pc1 := 93) dX6_ask_92 rfl ?_
      exact k_iret dX6_ask_93 rfl rfl (kMt_mk (c1 := 1) (v1 := 0) (f1 := f) (by unfold Task; first | exact kI_f (by omega) | (rw [kI_t (by omega)]; first | exact kI_t (by omega) | (rw [kI_f (by omega)]; first | exact kI_t (by omega) | (rw [kI_f (by omega)]; first | exact kI_t (by omega) | exact kI_f (by omega))))) hM169 hF169)
    · replace c14 : (0 ≤ a ∧ a ≤ 63) := kB_nz.mp c14
      refine k_iload_n (pc1 := 18) dX6_ask_17 rfl rfl ?_
      refine k_callSP dX6_ask_18 rfl lk_RX6_77 o_X6_isDay (w_X6_isDay hl k (by omega)) (as := [.int (iI k)]) rfl rfl rfl (by decide) (by decide) (k8 rfl) ?_
      refine k_if_eq (a := kB (0 ≤ k ∧ k ≤ 27)) dX6_ask_21 rfl (tgt := 57) rfl (kB_r _) (fun c21 : kB (0 ≤ k ∧ k ≤ 27) = 0 => ?_) (fun c21 : kB (0 ≤ k ∧ k ≤ 27) ≠ 0 => ?_)
      · replace c21 : ¬(0 ≤ k ∧ k ≤ 27) := kB_z.mp c21
        refine k_iconst (pc1 := 58) dX6_ask_57 rfl ?_
        refine k_istore (pc1 := 60) dX6_ask_58 rfl (by decide) (k_loc (L' := [some (.ref o), some (.int (iI host)), some (.int (iI a)), some (.int (iI k)), some (.int (iI t)), some (.int (iI n)), some (.int (iI 0)), none, none, none, none, none]) rfl ?_)
        refine k_aload_n (pc1 := 61) dX6_ask_60 rfl rfl ?_
        refine k_iload (pc1 := 63) dX6_ask_61 rfl rfl ?_
        refine k_if_ne (a := 0) dX6_ask_63 rfl (tgt := 70) rfl (by decide) (fun c => absurd c (by decide)) (fun _ => ?_)
        refine k_iconst (pc1 := 67) dX6_ask_66 rfl ?_
        refine k_goto dX6_ask_67 (tgt := 86) rfl ?_
        refine k_callVM (c' := 1) (wm' := (-1)) (wd' := (-1)) (f' := f) (v := .int (iI 1)) dX6_ask_86 rfl lk_RX6_34 o_X6_fails hM (w_X6_failsT hl hM (by decide)) (as := [.int (iI 1)]) rfl rfl rfl (by decide) (by decide) (k8 rfl) (fun h170 hM170 hX170 => ?_)
        have hF170 := kFm_tr (kFm_rf o g r h) hX170
        refine k_if_eq (a := 1) dX6_ask_89 rfl (tgt := 94) rfl (by decide) (fun c => absurd c (by decide)) (fun _ => ?_)
        refine k_iconst (pc1 := 93) dX6_ask_92 rfl ?_
        exact k_iret dX6_ask_93 rfl rfl (kMt_mk (c1 := 1) (v1 := 0) (f1 := f) (by unfold Task; first | exact kI_f (by omega) | (rw [kI_t (by omega)]; first | exact kI_t (by omega) | (rw [kI_f (by omega)]; first | exact kI_t (by omega) | (rw [kI_f (by omega)]; first | exact kI_t (by omega) | exact kI_f (by omega))))) hM170 hF170)
      · replace c21 : (0 ≤ k ∧ k ≤ 27) := kB_nz.mp c21
        refine k_iload (pc1 := 26) dX6_ask_24 rfl rfl ?_
        refine k_callSP dX6_ask_26 rfl lk_RX6_80 o_X6_isTime (w_X6_isTime hl t (by omega)) (as := [.int (iI t)]) rfl rfl rfl (by decide) (by decide) (k8 rfl) ?_
        refine k_if_eq (a := kB (0 ≤ t ∧ t ≤ 15)) dX6_ask_29 rfl (tgt := 57) rfl (kB_r _) (fun c29 : kB (0 ≤ t ∧ t ≤ 15) = 0 => ?_) (fun c29 : kB (0 ≤ t ∧ t ≤ 15) ≠ 0 => ?_)
        · replace c29 : ¬(0 ≤ t ∧ t ≤ 15) := kB_z.mp c29
          refine k_iconst (pc1 := 58) dX6_ask_57 rfl ?_
          refine k_istore (pc1 := 60) dX6_ask_58 rfl (by decide) (k_loc (L' := [some (.ref o), some (.int (iI host)), some (.int (iI a)), some (.int (iI k)), some (.int (iI t)), some (.int (iI n)), some (.int (iI 0)), none, none, none, none, none]) rfl ?_)
          refine k_aload_n (pc1 := 61) dX6_ask_60 rfl rfl ?_
          refine k_iload (pc1 := 63) dX6_ask_61 rfl rfl ?_
          refine k_if_ne (a := 0) dX6_ask_63 rfl (tgt := 70) rfl (by decide) (fun c => absurd c (by decide)) (fun _ => ?_)
          refine k_iconst (pc1 := 67) dX6_ask_66 rfl ?_
          refine k_goto dX6_ask_67 (tgt := 86) rfl ?_
          refine k_callVM (c' := 1) (wm' := (-1)) (wd' := (-1)) (f' := f) (v := .int (iI 1)) dX6_ask_86 rfl lk_RX6_34 o_X6_fails hM (w_X6_failsT hl hM (by decide)) (as := [.int (iI 1)]) rfl rfl rfl (by decide) (by decide) (k8 rfl) (fun h171 hM171 hX171 => ?_)
          have hF171 := kFm_tr (kFm_rf o g r h) hX171
          refine k_if_eq (a := 1) dX6_ask_89 rfl (tgt := 94) rfl (by decide) (fun c => absurd c (by decide)) (fun _ => ?_)
          refine k_iconst (pc1 := 93) dX6_ask_92 rfl ?_
          exact k_iret dX6_ask_93 rfl rfl (kMt_mk (c1 := 1) (v1 := 0) (f1 := f) (by unfold Task; first | exact kI_f (by omega) | (rw [kI_t (by omega)]; first | exact kI_t (by omega) | (rw [kI_f (by omega)]; first | exact kI_t (by omega) | (rw [kI_f (by omega)]; first | exact kI_t (by omega) | exact kI_f (by omega))))) hM171 hF171)
        · replace c29 : (0 ≤ t ∧ t ≤ 15) := kB_nz.mp c29
          refine k_iload (pc1 := 34) dX6_ask_32 rfl rfl ?_
          refine k_iconst (pc1 := 35) dX6_ask_34 rfl ?_
          refine k_bipush 6 (pc1 := 37) dX6_ask_35 rfl (by decide) ?_
          refine k_callSP dX6_ask_37 rfl lk_RX6_26 o_X6_in (w_X6_in hl n 1 6 (by omega) (by decide) (by decide)) (as := [.int (iI n), .int (iI 1), .int (iI 6)]) rfl rfl rfl (by decide) (by decide) (k8 rfl) ?_
          refine k_if_eq (a := kB (1 ≤ n ∧ n ≤ 6)) dX6_ask_40 rfl (tgt := 57) rfl (kB_r _) (fun c40 : kB (1 ≤ n ∧ n ≤ 6) = 0 => ?_) (fun c40 : kB (1 ≤ n ∧ n ≤ 6) ≠ 0 => ?_)
          · replace c40 : ¬(1 ≤ n ∧ n ≤ 6) := kB_z.mp c40
            refine k_iconst (pc1 := 58) dX6_ask_57 rfl ?_
            refine k_istore (pc1 := 60) dX6_ask_58 rfl (by decide) (k_loc (L' := [some (.ref o), some (.int (iI host)), some (.int (iI a)), some (.int (iI k)), some (.int (iI t)), some (.int (iI n)), some (.int (iI 0)), none, none, none, none, none]) rfl ?_)
            refine k_aload_n (pc1 := 61) dX6_ask_60 rfl rfl ?_
            refine k_iload (pc1 := 63) dX6_ask_61 rfl rfl ?_
            refine k_if_ne (a := 0) dX6_ask_63 rfl (tgt := 70) rfl (by decide) (fun c => absurd c (by decide)) (fun _ => ?_)
            refine k_iconst (pc1 := 67) dX6_ask_66 rfl ?_
            refine k_goto dX6_ask_67 (tgt := 86) rfl ?_
            refine k_callVM (c' := 1) (wm' := (-1)) (wd' := (-1)) (f' := f) (v := .int (iI 1)) dX6_ask_86 rfl lk_RX6_34 o_X6_fails hM (w_X6_failsT hl hM (by decide)) (as := [.int (iI 1)]) rfl rfl rfl (by decide) (by decide) (k8 rfl) (fun h172 hM172 hX172 => ?_)
            have hF172 := kFm_tr (kFm_rf o g r h) hX172
            refine k_if_eq (a := 1) dX6_ask_89 rfl (tgt := 94) rfl (by decide) (fun c => absurd c (by decide)) (fun _ => ?_)
            refine k_iconst (pc1 := 93) dX6_ask_92 rfl ?_
            exact k_iret dX6_ask_93 rfl rfl (kMt_mk (c1 := 1) (v1 := 0) (f1 := f) (by unfold Task; first | exact kI_f (by omega) | (rw [kI_t (by omega)]; first | exact kI_t (by omega) | (rw [kI_f (by omega)]; first | exact kI_t (by omega) | (rw [kI_f (by omega)]; first | exact kI_t (by omega) | exact kI_f (by omega))))) hM172 hF172)
          · replace c40 : (1 ≤ n ∧ n ≤ 6) := kB_nz.mp c40
            refine k_iload (pc1 := 45) dX6_ask_43 rfl rfl ?_
            refine k_iload (pc1 := 47) dX6_ask_45 rfl rfl ?_
            refine k_iadd (a := t) (b := n) (pc1 := 48) dX6_ask_47 rfl ?_
            refine k_bipush 16 (pc1 := 50) dX6_ask_48 rfl (by decide) ?_
            refine k_icmp_gt (a := (t + n)) (b := 16) dX6_ask_50 rfl (tgt := 57) rfl (by omega) (by decide) (fun c50 : 16 < (t + n) => ?_) (fun c50 : (t + n) ≤ 16 => ?_)
            · skip
              refine k_iconst (pc1 := 58) dX6_ask_57 rfl ?_
              refine k_istore (pc1 := 60) dX6_ask_58 rfl (by decide) (k_loc (L' := [some (.ref o), some (.int (iI host)), some (.int (iI a)), some (.int (iI k)), some (.int (iI t)), some (.int (iI n)), some (.int (iI 0)), none, none, none, none, none]) rfl ?_)
              refine k_aload_n (pc1 := 61) dX6_ask_60 rfl rfl ?_
              refine k_iload (pc1 := 63) dX6_ask_61 rfl rfl ?_
              refine k_if_ne (a := 0) dX6_ask_63 rfl (tgt := 70) rfl (by decide) (fun c => absurd c (by decide)) (fun _ => ?_)
              refine k_iconst (pc1 := 67) dX6_ask_66 rfl ?_
              refine k_goto dX6_ask_67 (tgt := 86) rfl ?_
              refine k_callVM (c' := 1) (wm' := (-1)) (wd' := (-1)) (f' := f) (v := .int (iI 1)) dX6_ask_86 rfl lk_RX6_34 o_X6_fails hM (w_X6_failsT hl hM (by decide)) (as := [.int (iI 1)]) rfl rfl rfl (by decide) (by decide) (k8 rfl) (fun h173 hM173 hX173 => ?_)
              have hF173 := kFm_tr (kFm_rf o g r h) hX173
              refine k_if_eq (a := 1) dX6_ask_89 rfl (tgt := 94) rfl (by decide) (fun c => absurd c (by decide)) (fun _ => ?_)
              refine k_iconst (pc1 := 93) dX6_ask_92 rfl ?_
              exact k_iret dX6_ask_93 rfl rfl (kMt_mk (c1 := 1) (v1 := 0) (f1 := f) (by unfold Task; first | exact kI_f (by omega) | (rw [kI_t (by omega)]; first | exact kI_t (by omega) | (rw [kI_f (by omega)]; first | exact kI_t (by omega) | (rw [kI_f (by omega)]; first | exact kI_t (by omega) | exact kI_f (by omega))))) hM173 hF173)
            · skip
              refine k_iconst (pc1 := 54) dX6_ask_53 rfl ?_
              refine k_goto dX6_ask_54 (tgt := 58) rfl ?_
              refine k_istore (pc1 := 60) dX6_ask_58 rfl (by decide) (k_loc (L' := [some (.ref o), some (.int (iI host)), some (.int (iI a)), some (.int (iI k)), some (.int (iI t)), some (.int (iI n)), some (.int (iI 1)), none, none, none, none, none]) rfl ?_)
              refine k_aload_n (pc1 := 61) dX6_ask_60 rfl rfl ?_
              refine k_iload (pc1 := 63) dX6_ask_61 rfl rfl ?_
              refine k_if_ne (a := 1) dX6_ask_63 rfl (tgt := 70) rfl (by decide) (fun _ => ?_) (fun c => absurd c (by decide))
              refine k_aload_n (pc1 := 71) dX6_ask_70 rfl rfl ?_
              refine k_get (pc1 := 74) dX6_ask_71 rfl fd_RX6_7 hM.1 (v := .ref g) rfl ?_
              refine k_iconst (pc1 := 75) dX6_ask_74 rfl ?_
              refine k_iald (i := 1) (f := f) (pc1 := 76) dX6_ask_75 rfl hM.2.1 (N := 380) (by omega) (by omega) (by decide) (k_val (v' := .int (iI (f 1))) rfl ?_)
              refine k_bipush 8 (pc1 := 78) dX6_ask_76 rfl (by decide) ?_
              refine k_icmp_ne (a := (f 1)) (b := 8) dX6_ask_78 rfl (tgt := 85) rfl (by omega) (by decide) (fun c78 : (f 1) ≠ 8 => ?_) (fun c78 : (f 1) = 8 => ?_)
              · skip
                refine k_iconst (pc1 := 86) dX6_ask_85 rfl ?_
                refine k_callVM (c' := 0) (wm' := (-1)) (wd' := (-1)) (f' := f) (v := .int (iI 0)) dX6_ask_86 rfl lk_RX6_34 o_X6_fails hM (w_X6_failsF hl hM) (as := [.int (iI 0)]) rfl rfl rfl (by decide) (by decide) (k8 rfl) (fun h174 hM174 hX174 => ?_)
                have hF174 := kFm_tr (kFm_rf o g r h) hX174
                refine k_if_eq (a := 0) dX6_ask_89 rfl (tgt := 94) rfl (by decide) (fun _ => ?_) (fun c => absurd c (by decide))
                have hq1 : a.toNat < 64 := by omega
                have hq2 : 2 ^ host.toNat < 64 := k2p_lt (by omega)
                have hq : (a.toNat ||| 2 ^ host.toNat) < 64 := kor_lt hq1 hq2
                refine k_loc (L' := [some (.ref o), some (.int (iI host)), some (.int (iI ((a.toNat : Nat) : Int))), some (.int (iI k)), some (.int (iI t)), some (.int (iI n)), some (.int (iI 1)), none, none, none, none, none]) (by rw [Int.toNat_of_nonneg (by omega)]) ?_
                have hb1 := bsyF_r f (-1) (-1) (a.toNat ||| 2 ^ host.toNat) k t n
                have hb2 := smlF_r f (-1) (-1) (a.toNat ||| 2 ^ host.toNat) k t n
                refine k_iload_n (pc1 := 95) dX6_ask_94 rfl rfl ?_
                refine k_iconst (pc1 := 96) dX6_ask_95 rfl ?_
                refine k_iload_n (pc1 := 97) dX6_ask_96 rfl rfl ?_
                refine k_ishl (pc1 := 98) dX6_ask_97 rfl (k_val (v' := .int (iI (((2 ^ host.toNat) : Nat) : Int))) (congrArg Value.int (iI_sh1i (by omega) (by omega))) ?_)
                refine k_ior (pc1 := 99) dX6_ask_98 rfl (k_val (v' := .int (iI (((a.toNat ||| (2 ^ host.toNat)) : Nat) : Int))) (congrArg Value.int iI_or) ?_)
                refine k_istore (pc1 := 101) dX6_ask_99 rfl (by decide) (k_loc (L' := [some (.ref o), some (.int (iI host)), some (.int (iI ((a.toNat : Nat) : Int))), some (.int (iI k)), some (.int (iI t)), some (.int (iI n)), some (.int (iI 1)), some (.int (iI (((a.toNat ||| (2 ^ host.toNat)) : Nat) : Int))), none, none, none, none]) rfl ?_)
                refine k_aload_n (pc1 := 102) dX6_ask_101 rfl rfl ?_
                refine k_iload (pc1 := 104) dX6_ask_102 rfl rfl ?_
                refine k_iload_n (pc1 := 105) dX6_ask_104 rfl rfl ?_
                refine k_iload (pc1 := 107) dX6_ask_105 rfl rfl ?_
                refine k_iload (pc1 := 109) dX6_ask_107 rfl rfl ?_
                refine k_callVP dX6_ask_109 rfl lk_RX6_83 o_X6_busy (w_X6_busy hl hM174 (a.toNat ||| (2 ^ host.toNat)) k t n (by first | omega | exact kmk_lt _ _ | assumption) hW hwm hwd ⟨by omega, by omega⟩ ⟨by omega, by omega⟩ ⟨by omega, by omega⟩ ) (as := [.int (iI (((a.toNat ||| (2 ^ host.toNat)) : Nat) : Int)), .int (iI k), .int (iI t), .int (iI n)]) hM174.1 rfl rfl rfl rfl (by decide) (by decide) (k8 rfl) ?_
                refine k_istore (pc1 := 114) dX6_ask_112 rfl (by decide) (k_loc (L' := [some (.ref o), some (.int (iI host)), some (.int (iI ((a.toNat : Nat) : Int))), some (.int (iI k)), some (.int (iI t)), some (.int (iI n)), some (.int (iI 1)), some (.int (iI (((a.toNat ||| (2 ^ host.toNat)) : Nat) : Int))), some (.int (iI (bsyF f (-1) (-1) (a.toNat ||| (2 ^ host.toNat)) k t n))), none, none, none]) rfl ?_)
                refine k_iload (pc1 := 116) dX6_ask_114 rfl rfl ?_
                refine k_if_lt (a := (bsyF f (-1) (-1) (a.toNat ||| (2 ^ host.toNat)) k t n)) dX6_ask_116 rfl (tgt := 132) rfl (by omega) (fun c116 : (bsyF f (-1) (-1) (a.toNat ||| (2 ^ host.toNat)) k t n) < 0 => ?_) (fun c116 : ¬ (bsyF f (-1) (-1) (a.toNat ||| (2 ^ host.toNat)) k t n) < 0 => ?_)
                · skip
                  refine k_aload_n (pc1 := 133) dX6_ask_132 rfl rfl ?_
                  refine k_iload (pc1 := 135) dX6_ask_133 rfl rfl ?_
                  refine k_iload_n (pc1 := 136) dX6_ask_135 rfl rfl ?_
                  refine k_iload (pc1 := 138) dX6_ask_136 rfl rfl ?_
                  refine k_iload (pc1 := 140) dX6_ask_138 rfl rfl ?_
                  refine k_callVP dX6_ask_140 rfl lk_RX6_89 o_X6_smallest (w_X6_smallest hl hM174 (a.toNat ||| (2 ^ host.toNat)) k t n (by first | omega | exact kmk_lt _ _ | assumption) hW hwm hwd ⟨by omega, by omega⟩ ⟨by omega, by omega⟩ ⟨by omega, by omega⟩ ) (as := [.int (iI (((a.toNat ||| (2 ^ host.toNat)) : Nat) : Int)), .int (iI k), .int (iI t), .int (iI n)]) hM174.1 rfl rfl rfl rfl (by decide) (by decide) (k8 rfl) ?_
                  refine k_istore (pc1 := 145) dX6_ask_143 rfl (by decide) (k_loc (L' := [some (.ref o), some (.int (iI host)), some (.int (iI ((a.toNat : Nat) : Int))), some (.int (iI k)), some (.int (iI t)), some (.int (iI n)), some (.int (iI 1)), some (.int (iI (((a.toNat ||| (2 ^ host.toNat)) : Nat) : Int))), some (.int (iI (bsyF f (-1) (-1) (a.toNat ||| (2 ^ host.toNat)) k t n))), some (.int (iI (smlF f (-1) (-1) (a.toNat ||| (2 ^ host.toNat)) k t n))), none, none]) rfl ?_)
                  refine k_iload (pc1 := 147) dX6_ask_145 rfl rfl ?_
                  refine k_if_ge (a := (smlF f (-1) (-1) (a.toNat ||| (2 ^ host.toNat)) k t n)) dX6_ask_147 rfl (tgt := 162) rfl (by omega) (fun c147 : 0 ≤ (smlF f (-1) (-1) (a.toNat ||| (2 ^ host.toNat)) k t n) => ?_) (fun c147 : (smlF f (-1) (-1) (a.toNat ||| (2 ^ host.toNat)) k t n) < 0 => ?_)
                  · skip
                    refine k_aload_n (pc1 := 163) dX6_ask_162 rfl rfl ?_
                    refine k_get (pc1 := 166) dX6_ask_163 rfl fd_RX6_7 hM174.1 (v := .ref g) rfl ?_
                    refine k_iconst (pc1 := 167) dX6_ask_166 rfl ?_
                    refine k_iald (i := 1) (f := f) (pc1 := 168) dX6_ask_167 rfl hM174.2.1 (N := 380) (by omega) (by omega) (by decide) (k_val (v' := .int (iI (f 1))) rfl ?_)
                    refine k_istore (pc1 := 170) dX6_ask_168 rfl (by decide) (k_loc (L' := [some (.ref o), some (.int (iI host)), some (.int (iI ((a.toNat : Nat) : Int))), some (.int (iI k)), some (.int (iI t)), some (.int (iI n)), some (.int (iI 1)), some (.int (iI (((a.toNat ||| (2 ^ host.toNat)) : Nat) : Int))), some (.int (iI (bsyF f (-1) (-1) (a.toNat ||| (2 ^ host.toNat)) k t n))), some (.int (iI (smlF f (-1) (-1) (a.toNat ||| (2 ^ host.toNat)) k t n))), some (.int (iI (f 1))), none]) rfl ?_)
                    refine k_aload_n (pc1 := 171) dX6_ask_170 rfl rfl ?_
                    refine k_iload (pc1 := 173) dX6_ask_171 rfl rfl ?_
                    refine k_iconst (pc1 := 174) dX6_ask_173 rfl ?_
                    refine k_aload_n (pc1 := 175) dX6_ask_174 rfl rfl ?_
                    refine k_get (pc1 := 178) dX6_ask_175 rfl fd_RX6_7 hM174.1 (v := .ref g) rfl ?_
                    refine k_iconst (pc1 := 179) dX6_ask_178 rfl ?_
                    refine k_iald (i := 2) (f := f) (pc1 := 180) dX6_ask_179 rfl hM174.2.1 (N := 380) (by omega) (by omega) (by decide) (k_val (v' := .int (iI (f 2))) rfl ?_)
                    refine k_callVMn (c' := 0) (wm' := (-1)) (wd' := (-1)) (f' := (lyF f (f 1) 0 (f 2))) dX6_ask_180 rfl lk_RX6_70 o_X6_lays hM174 (w_X6_lays hl hM174 (f 1) 0 (f 2) (by omega) (by omega)) (as := [.int (iI (f 1)), .int (iI 0), .int (iI (f 2))]) rfl rfl rfl (by decide) (by decide) (k8 rfl) (fun h175 hM175 hX175 => ?_)
                    have hF175 := kFm_tr hF174 hX175
                    refine k_aload_n (pc1 := 184) dX6_ask_183 rfl rfl ?_
                    refine k_iload (pc1 := 186) dX6_ask_184 rfl rfl ?_
                    refine k_iconst (pc1 := 187) dX6_ask_186 rfl ?_
                    refine k_iload_n (pc1 := 188) dX6_ask_187 rfl rfl ?_
                    refine k_callVMn (c' := 0) (wm' := (-1)) (wd' := (-1)) (f' := (lyF (lyF f (f 1) 0 (f 2)) (f 1) 1 host)) dX6_ask_188 rfl lk_RX6_70 o_X6_lays hM175 (w_X6_lays hl hM175 (f 1) 1 host (by omega) (by omega)) (as := [.int (iI (f 1)), .int (iI 1), .int (iI host)]) rfl rfl rfl (by decide) (by decide) (k8 rfl) (fun h176 hM176 hX176 => ?_)
                    have hF176 := kFm_tr hF175 hX176
                    refine k_aload_n (pc1 := 192) dX6_ask_191 rfl rfl ?_
                    refine k_iload (pc1 := 194) dX6_ask_192 rfl rfl ?_
                    refine k_iconst (pc1 := 195) dX6_ask_194 rfl ?_
                    refine k_iload (pc1 := 197) dX6_ask_195 rfl rfl ?_
                    refine k_callVMn (c' := 0) (wm' := (-1)) (wd' := (-1)) (f' := (lyF (lyF (lyF f (f 1) 0 (f 2)) (f 1) 1 host) (f 1) 2 n)) dX6_ask_197 rfl lk_RX6_70 o_X6_lays hM176 (w_X6_lays hl hM176 (f 1) 2 n (by omega) (by omega)) (as := [.int (iI (f 1)), .int (iI 2), .int (iI n)]) rfl rfl rfl (by decide) (by decide) (k8 rfl) (fun h177 hM177 hX177 => ?_)
                    have hF177 := kFm_tr hF176 hX177
                    refine k_aload_n (pc1 := 201) dX6_ask_200 rfl rfl ?_
                    refine k_iload (pc1 := 203) dX6_ask_201 rfl rfl ?_
                    refine k_iconst (pc1 := 204) dX6_ask_203 rfl ?_
                    refine k_iconst (pc1 := 205) dX6_ask_204 rfl ?_
                    refine k_callVMn (c' := 0) (wm' := (-1)) (wd' := (-1)) (f' := (lyF (lyF (lyF (lyF f (f 1) 0 (f 2)) (f 1) 1 host) (f 1) 2 n) (f 1) 3 1)) dX6_ask_205 rfl lk_RX6_70 o_X6_lays hM177 (w_X6_lays hl hM177 (f 1) 3 1 (by omega) (by omega)) (as := [.int (iI (f 1)), .int (iI 3), .int (iI 1)]) rfl rfl rfl (by decide) (by decide) (k8 rfl) (fun h178 hM178 hX178 => ?_)
                    have hF178 := kFm_tr hF177 hX178
                    refine k_iconst (pc1 := 209) dX6_ask_208 rfl ?_
                    refine k_istore (pc1 := 211) dX6_ask_209 rfl (by decide) (k_loc (L' := [some (.ref o), some (.int (iI host)), some (.int (iI ((a.toNat : Nat) : Int))), some (.int (iI k)), some (.int (iI t)), some (.int (iI n)), some (.int (iI 1)), some (.int (iI (((a.toNat ||| (2 ^ host.toNat)) : Nat) : Int))), some (.int (iI (bsyF f (-1) (-1) (a.toNat ||| (2 ^ host.toNat)) k t n))), some (.int (iI (smlF f (-1) (-1) (a.toNat ||| (2 ^ host.toNat)) k t n))), some (.int (iI (f 1))), some (.int (iI 0))]) rfl ?_)
                    have hloop211 : ∀ (zz : Nat) (i : Nat) (h5 : kAH), zz = 6 - i → (i ≤ 6) → (kMd G h5 o g r 0 (-1) (-1) (anF (lyF (lyF (lyF (lyF f (f 1) 0 (f 2)) (f 1) 1 host) (f 1) 2 n) (f 1) 3 1) (f 1) host a.toNat i)) → (kFm o g r h h5) → kW l G m_X6_ask 7 (kMt G o g r (Task f host a k t n) h) kNo 0 0 211 [some (.ref o), some (.int (iI host)), some (.int (iI ((a.toNat : Nat) : Int))), some (.int (iI k)), some (.int (iI t)), some (.int (iI n)), some (.int (iI 1)), some (.int (iI (((a.toNat ||| (2 ^ host.toNat)) : Nat) : Int))), some (.int (iI (bsyF f (-1) (-1) (a.toNat ||| (2 ^ host.toNat)) k t n))), some (.int (iI (smlF f (-1) (-1) (a.toNat ||| (2 ^ host.toNat)) k t n))), some (.int (iI (f 1))), some (.int (iI ((i : Nat) : Int)))] [] h5 := by
                      intro zz
                      induction zz using Nat.strongRecOn with
                      | ind zz ih211 =>
                      intro i h5 hr211 hi hM5 hF5
                      refine k_iload (pc1 := 213) dX6_ask_211 rfl rfl ?_
                      refine k_bipush 6 (pc1 := 215) dX6_ask_213 rfl (by decide) ?_
                      refine k_icmp_ge (a := ((i : Nat) : Int)) (b := 6) dX6_ask_215 rfl (tgt := 257) rfl (by omega) (by decide) (fun c215 : 6 ≤ ((i : Nat) : Int) => ?_) (fun c215 : ((i : Nat) : Int) < 6 => ?_)
                      · skip
                        have e6 : i = 6 := by omega
                        subst e6
                        refine k_aload_n (pc1 := 258) dX6_ask_257 rfl rfl ?_
                        refine k_iload (pc1 := 260) dX6_ask_258 rfl rfl ?_
                        refine k_iconst (pc1 := 261) dX6_ask_260 rfl ?_
                        refine k_iload_n (pc1 := 262) dX6_ask_261 rfl rfl ?_
                        refine k_iload (pc1 := 264) dX6_ask_262 rfl rfl ?_
                        refine k_iload (pc1 := 266) dX6_ask_264 rfl rfl ?_
                        refine k_callVMn (c' := 0) (wm' := (-1)) (wd' := (-1)) (f' := (dtF (anF (lyF (lyF (lyF (lyF f (f 1) 0 (f 2)) (f 1) 1 host) (f 1) 2 n) (f 1) 3 1) (f 1) host a.toNat 6) (f 1) 0 k t (smlF f (-1) (-1) (a.toNat ||| (2 ^ host.toNat)) k t n))) dX6_ask_266 rfl lk_RX6_92 o_X6_dates hM5 (w_X6_dates hl hM5 (f 1) 0 k t (smlF f (-1) (-1) (a.toNat ||| (2 ^ host.toNat)) k t n) ⟨by omega, by omega⟩ ⟨by omega, by omega⟩) (as := [.int (iI (f 1)), .int (iI 0), .int (iI k), .int (iI t), .int (iI (smlF f (-1) (-1) (a.toNat ||| (2 ^ host.toNat)) k t n))]) rfl rfl rfl (by decide) (by decide) (k8 rfl) (fun h179 hM179 hX179 => ?_)
                        have hF179 := kFm_tr hF5 hX179
                        refine k_aload_n (pc1 := 270) dX6_ask_269 rfl rfl ?_
                        refine k_get (pc1 := 273) dX6_ask_270 rfl fd_RX6_7 hM179.1 (v := .ref g) rfl ?_
                        refine k_iconst (pc1 := 274) dX6_ask_273 rfl ?_
                        refine k_dup2 (pc1 := 275) dX6_ask_274 rfl rfl rfl ?_
                        refine k_iald (i := 1) (f := (dtF (anF (lyF (lyF (lyF (lyF f (f 1) 0 (f 2)) (f 1) 1 host) (f 1) 2 n) (f 1) 3 1) (f 1) host a.toNat 6) (f 1) 0 k t (smlF f (-1) (-1) (a.toNat ||| (2 ^ host.toNat)) k t n))) (pc1 := 276) dX6_ask_275 rfl hM179.2.1 (N := 380) (by omega) (by omega) (by decide) (k_val (v' := .int (iI ((dtF (anF (lyF (lyF (lyF (lyF f (f 1) 0 (f 2)) (f 1) 1 host) (f 1) 2 n) (f 1) 3 1) (f 1) host a.toNat 6) (f 1) 0 k t (smlF f (-1) (-1) (a.toNat ||| (2 ^ host.toNat)) k t n)) 1))) rfl ?_)
                        refine k_iconst (pc1 := 277) dX6_ask_276 rfl ?_
                        refine k_iadd (a := ((dtF (anF (lyF (lyF (lyF (lyF f (f 1) 0 (f 2)) (f 1) 1 host) (f 1) 2 n) (f 1) 3 1) (f 1) host a.toNat 6) (f 1) 0 k t (smlF f (-1) (-1) (a.toNat ||| (2 ^ host.toNat)) k t n)) 1)) (b := 1) (pc1 := 278) dX6_ask_277 rfl ?_
                        refine k_iastM (pc1 := 279) (i := 1) (x := (((dtF (anF (lyF (lyF (lyF (lyF f (f 1) 0 (f 2)) (f 1) 1 host) (f 1) 2 n) (f 1) 3 1) (f 1) host a.toNat 6) (f 1) 0 k t (smlF f (-1) (-1) (a.toNat ||| (2 ^ host.toNat)) k t n)) 1) + 1)) dX6_ask_278 rfl hM179 (by omega) (by omega) (fun h180 hM180 hX180 => ?_)
                        have hF180 := kFm_tr hF179 hX180
                        refine k_aload_n (pc1 := 280) dX6_ask_279 rfl rfl ?_
                        refine k_get (pc1 := 283) dX6_ask_280 rfl fd_RX6_7 hM180.1 (v := .ref g) rfl ?_
                        refine k_iconst (pc1 := 284) dX6_ask_283 rfl ?_
                        refine k_dup2 (pc1 := 285) dX6_ask_284 rfl rfl rfl ?_
                        refine k_iald (i := 2) (f := (kiu (dtF (anF (lyF (lyF (lyF (lyF f (f 1) 0 (f 2)) (f 1) 1 host) (f 1) 2 n) (f 1) 3 1) (f 1) host a.toNat 6) (f 1) 0 k t (smlF f (-1) (-1) (a.toNat ||| (2 ^ host.toNat)) k t n)) 1 (((dtF (anF (lyF (lyF (lyF (lyF f (f 1) 0 (f 2)) (f 1) 1 host) (f 1) 2 n) (f 1) 3 1) (f 1) host a.toNat 6) (f 1) 0 k t (smlF f (-1) (-1) (a.toNat ||| (2 ^ host.toNat)) k t n)) 1) + 1))) (pc1 := 286) dX6_ask_285 rfl hM180.2.1 (N := 380) (by omega) (by omega) (by decide) (k_val (v' := .int (iI ((kiu (dtF (anF (lyF (lyF (lyF (lyF f (f 1) 0 (f 2)) (f 1) 1 host) (f 1) 2 n) (f 1) 3 1) (f 1) host a.toNat 6) (f 1) 0 k t (smlF f (-1) (-1) (a.toNat ||| (2 ^ host.toNat)) k t n)) 1 (((dtF (anF (lyF (lyF (lyF (lyF f (f 1) 0 (f 2)) (f 1) 1 host) (f 1) 2 n) (f 1) 3 1) (f 1) host a.toNat 6) (f 1) 0 k t (smlF f (-1) (-1) (a.toNat ||| (2 ^ host.toNat)) k t n)) 1) + 1)) 2))) rfl ?_)
                        refine k_iconst (pc1 := 287) dX6_ask_286 rfl ?_
                        refine k_iadd (a := ((kiu (dtF (anF (lyF (lyF (lyF (lyF f (f 1) 0 (f 2)) (f 1) 1 host) (f 1) 2 n) (f 1) 3 1) (f 1) host a.toNat 6) (f 1) 0 k t (smlF f (-1) (-1) (a.toNat ||| (2 ^ host.toNat)) k t n)) 1 (((dtF (anF (lyF (lyF (lyF (lyF f (f 1) 0 (f 2)) (f 1) 1 host) (f 1) 2 n) (f 1) 3 1) (f 1) host a.toNat 6) (f 1) 0 k t (smlF f (-1) (-1) (a.toNat ||| (2 ^ host.toNat)) k t n)) 1) + 1)) 2)) (b := 1) (pc1 := 288) dX6_ask_287 rfl ?_
                        refine k_iastM (pc1 := 289) (i := 2) (x := (((kiu (dtF (anF (lyF (lyF (lyF (lyF f (f 1) 0 (f 2)) (f 1) 1 host) (f 1) 2 n) (f 1) 3 1) (f 1) host a.toNat 6) (f 1) 0 k t (smlF f (-1) (-1) (a.toNat ||| (2 ^ host.toNat)) k t n)) 1 (((dtF (anF (lyF (lyF (lyF (lyF f (f 1) 0 (f 2)) (f 1) 1 host) (f 1) 2 n) (f 1) 3 1) (f 1) host a.toNat 6) (f 1) 0 k t (smlF f (-1) (-1) (a.toNat ||| (2 ^ host.toNat)) k t n)) 1) + 1)) 2) + 1)) dX6_ask_288 rfl hM180 (by omega) (by omega) (fun h181 hM181 hX181 => ?_)
                        have hF181 := kFm_tr hF180 hX181
                        have hnum : oF (kiu (kiu (dtF (anF (lyF (lyF (lyF (lyF f (f 1) 0 (f 2)) (f 1) 1 host) (f 1) 2 n) (f 1) 3 1) (f 1) host a.toNat 6) (f 1) 0 k t (smlF f (-1) (-1) (a.toNat ||| (2 ^ host.toNat)) k t n)) 1 (((dtF (anF (lyF (lyF (lyF (lyF f (f 1) 0 (f 2)) (f 1) 1 host) (f 1) 2 n) (f 1) 3 1) (f 1) host a.toNat 6) (f 1) 0 k t (smlF f (-1) (-1) (a.toNat ||| (2 ^ host.toNat)) k t n)) 1) + 1)) 2 (((kiu (dtF (anF (lyF (lyF (lyF (lyF f (f 1) 0 (f 2)) (f 1) 1 host) (f 1) 2 n) (f 1) 3 1) (f 1) host a.toNat 6) (f 1) 0 k t (smlF f (-1) (-1) (a.toNat ||| (2 ^ host.toNat)) k t n)) 1 (((dtF (anF (lyF (lyF (lyF (lyF f (f 1) 0 (f 2)) (f 1) 1 host) (f 1) 2 n) (f 1) 3 1) (f 1) host a.toNat 6) (f 1) 0 k t (smlF f (-1) (-1) (a.toNat ||| (2 ^ host.toNat)) k t n)) 1) + 1)) 2) + 1)) (f 1) 0 = f 2 := by
                          rw [ki_oF (by decide) (by omega) (by decide), ki_oF (by decide) (by omega) (by decide), dt_oF (by omega) (by decide) (by omega) (by decide), if_neg (by omega), if_neg (by omega), if_neg (by omega), if_neg (by omega), an_oF (by omega) (by decide) (by omega) (by decide) (by omega)]
                          rw [oF_ly (by omega) (by decide) (by omega) (by decide), if_neg (by omega), oF_ly (by omega) (by decide) (by omega) (by decide), if_neg (by omega), oF_ly (by omega) (by decide) (by omega) (by decide), if_neg (by omega), oF_ly (by omega) (by decide) (by omega) (by decide), if_pos ⟨rfl, rfl⟩]
                        refine k_aload_n (pc1 := 290) dX6_ask_289 rfl rfl ?_
                        refine k_iload (pc1 := 292) dX6_ask_290 rfl rfl ?_
                        refine k_iconst (pc1 := 293) dX6_ask_292 rfl ?_
                        refine k_callVP dX6_ask_293 rfl lk_RX6_37 o_X6_of (w_X6_of hl hM181 (f 1) 0 (by omega) (by omega)) (as := [.int (iI (f 1)), .int (iI 0)]) hM181.1 rfl rfl rfl rfl (by decide) (by decide) (k8 rfl) ?_
                        exact k_iret dX6_ask_296 rfl rfl (kMt_mk (c1 := 0) (v1 := (oF (kiu (kiu (dtF (anF (lyF (lyF (lyF (lyF f (f 1) 0 (f 2)) (f 1) 1 host) (f 1) 2 n) (f 1) 3 1) (f 1) host a.toNat 6) (f 1) 0 k t (smlF f (-1) (-1) (a.toNat ||| (2 ^ host.toNat)) k t n)) 1 (((dtF (anF (lyF (lyF (lyF (lyF f (f 1) 0 (f 2)) (f 1) 1 host) (f 1) 2 n) (f 1) 3 1) (f 1) host a.toNat 6) (f 1) 0 k t (smlF f (-1) (-1) (a.toNat ||| (2 ^ host.toNat)) k t n)) 1) + 1)) 2 (((kiu (dtF (anF (lyF (lyF (lyF (lyF f (f 1) 0 (f 2)) (f 1) 1 host) (f 1) 2 n) (f 1) 3 1) (f 1) host a.toNat 6) (f 1) 0 k t (smlF f (-1) (-1) (a.toNat ||| (2 ^ host.toNat)) k t n)) 1 (((dtF (anF (lyF (lyF (lyF (lyF f (f 1) 0 (f 2)) (f 1) 1 host) (f 1) 2 n) (f 1) 3 1) (f 1) host a.toNat 6) (f 1) 0 k t (smlF f (-1) (-1) (a.toNat ||| (2 ^ host.toNat)) k t n)) 1) + 1)) 2) + 1)) (f 1) 0)) (f1 := (kiu (kiu (dtF (anF (lyF (lyF (lyF (lyF f (f 1) 0 (f 2)) (f 1) 1 host) (f 1) 2 n) (f 1) 3 1) (f 1) host a.toNat 6) (f 1) 0 k t (smlF f (-1) (-1) (a.toNat ||| (2 ^ host.toNat)) k t n)) 1 (((dtF (anF (lyF (lyF (lyF (lyF f (f 1) 0 (f 2)) (f 1) 1 host) (f 1) 2 n) (f 1) 3 1) (f 1) host a.toNat 6) (f 1) 0 k t (smlF f (-1) (-1) (a.toNat ||| (2 ^ host.toNat)) k t n)) 1) + 1)) 2 (((kiu (dtF (anF (lyF (lyF (lyF (lyF f (f 1) 0 (f 2)) (f 1) 1 host) (f 1) 2 n) (f 1) 3 1) (f 1) host a.toNat 6) (f 1) 0 k t (smlF f (-1) (-1) (a.toNat ||| (2 ^ host.toNat)) k t n)) 1 (((dtF (anF (lyF (lyF (lyF (lyF f (f 1) 0 (f 2)) (f 1) 1 host) (f 1) 2 n) (f 1) 3 1) (f 1) host a.toNat 6) (f 1) 0 k t (smlF f (-1) (-1) (a.toNat ||| (2 ^ host.toNat)) k t n)) 1) + 1)) 2) + 1))) (by unfold Task; rw [kI_t (by omega), kI_f (by omega), kI_f (by omega), kI_f (by omega)]; exact Prod.ext rfl (Prod.ext hnum.symm rfl)) hM181 hF181)
                      · skip
                        refine k_aload_n (pc1 := 219) dX6_ask_218 rfl rfl ?_
                        refine k_iload (pc1 := 221) dX6_ask_219 rfl rfl ?_
                        refine k_iconst (pc1 := 222) dX6_ask_221 rfl ?_
                        refine k_iload (pc1 := 224) dX6_ask_222 rfl rfl ?_
                        refine k_iadd (a := 4) (b := ((i : Nat) : Int)) (pc1 := 225) dX6_ask_224 rfl ?_
                        refine k_iload (pc1 := 227) dX6_ask_225 rfl rfl ?_
                        refine k_iload_n (pc1 := 228) dX6_ask_227 rfl rfl ?_
                        refine k_icmp_eq (a := ((i : Nat) : Int)) (b := host) dX6_ask_228 rfl (tgt := 246) rfl (by omega) (by omega) (fun c228 : ((i : Nat) : Int) = host => ?_) (fun c228 : ((i : Nat) : Int) ≠ host => ?_)
                        · skip
                          refine k_bipush 45 (pc1 := 248) dX6_ask_246 rfl (by decide) ?_
                          refine k_callVMn (c' := 0) (wm' := (-1)) (wd' := (-1)) (f' := (lyF (anF (lyF (lyF (lyF (lyF f (f 1) 0 (f 2)) (f 1) 1 host) (f 1) 2 n) (f 1) 3 1) (f 1) host a.toNat i) (f 1) (4 + ((i : Nat) : Int)) 45)) dX6_ask_248 rfl lk_RX6_70 o_X6_lays hM5 (w_X6_lays hl hM5 (f 1) (4 + ((i : Nat) : Int)) 45 (by omega) (by omega)) (as := [.int (iI (f 1)), .int (iI (4 + ((i : Nat) : Int))), .int (iI 45)]) rfl rfl rfl (by decide) (by decide) (k8 rfl) (fun h182 hM182 hX182 => ?_)
                          have hF182 := kFm_tr hF5 hX182
                          refine k_iinc (a := ((i : Nat) : Int)) (pc1 := 254) dX6_ask_251 rfl rfl (by decide) (k_loc (L' := [some (.ref o), some (.int (iI host)), some (.int (iI ((a.toNat : Nat) : Int))), some (.int (iI k)), some (.int (iI t)), some (.int (iI n)), some (.int (iI 1)), some (.int (iI (((a.toNat ||| (2 ^ host.toNat)) : Nat) : Int))), some (.int (iI (bsyF f (-1) (-1) (a.toNat ||| (2 ^ host.toNat)) k t n))), some (.int (iI (smlF f (-1) (-1) (a.toNat ||| (2 ^ host.toNat)) k t n))), some (.int (iI (f 1))), some (.int (iI (((i : Nat) : Int) + 1)))]) rfl ?_)
                          refine k_goto dX6_ask_254 (tgt := 211) rfl ?_
                          have hbit : (if Nat.testBit a.toNat i then (1 : Int) else 0) = 1 → a.toNat.testBit i = true := fun z => by
                            cases e : a.toNat.testBit i with
                            | true => rfl
                            | false => rw [e] at z; exact absurd z (by decide)
                          have hnbit : (if Nat.testBit a.toNat i then (1 : Int) else 0) ≠ 1 → ¬ a.toNat.testBit i = true := fun z y => by rw [y] at z; exact z rfl
                          have e : (anF (lyF (lyF (lyF (lyF f (f 1) 0 (f 2)) (f 1) 1 host) (f 1) 2 n) (f 1) 3 1) (f 1) host a.toNat (i + 1)) = (lyF (anF (lyF (lyF (lyF (lyF f (f 1) 0 (f 2)) (f 1) 1 host) (f 1) 2 n) (f 1) 3 1) (f 1) host a.toNat i) (f 1) (4 + ((i : Nat) : Int)) 45) := congrArg (lyF (anF (lyF (lyF (lyF (lyF f (f 1) 0 (f 2)) (f 1) 1 host) (f 1) 2 n) (f 1) 3 1) (f 1) host a.toNat i) (f 1) (4 + ((i : Nat) : Int))) (kI_f (fun z => by first | exact z.1 (by omega) | exact hnbit c238 z.2))
                          rw [← e] at hM182
                          exact ih211 _ (by omega) (i + 1) h182 rfl (by omega) hM182 hF182
                        · skip
                          refine k_iload_n (pc1 := 232) dX6_ask_231 rfl rfl ?_
                          refine k_iload (pc1 := 234) dX6_ask_232 rfl rfl ?_
                          refine k_ishr (pc1 := 235) dX6_ask_234 rfl ?_
                          refine k_iconst (pc1 := 236) dX6_ask_235 rfl ?_
                          refine k_iand (pc1 := 237) dX6_ask_236 rfl (k_val (v' := .int (iI (if Nat.testBit a.toNat i then 1 else 0))) (congrArg Value.int (iI_bit (by first | omega | exact kmk_lt _ _ | assumption) (by omega))) ?_)
                          refine k_iconst (pc1 := 238) dX6_ask_237 rfl ?_
                          have hbr : -2147483648 ≤ (if Nat.testBit a.toNat i then (1 : Int) else 0) ∧ (if Nat.testBit a.toNat i then (1 : Int) else 0) < 2147483648 := by split <;> decide
                          refine k_icmp_ne (a := (if Nat.testBit a.toNat i then 1 else 0)) (b := 1) dX6_ask_238 rfl (tgt := 246) rfl (by omega) (by decide) (fun c238 : (if Nat.testBit a.toNat i then 1 else 0) ≠ 1 => ?_) (fun c238 : (if Nat.testBit a.toNat i then 1 else 0) = 1 => ?_)
                          · skip
                            refine k_bipush 45 (pc1 := 248) dX6_ask_246 rfl (by decide) ?_
                            refine k_callVMn (c' := 0) (wm' := (-1)) (wd' := (-1)) (f' := (lyF (anF (lyF (lyF (lyF (lyF f (f 1) 0 (f 2)) (f 1) 1 host) (f 1) 2 n) (f 1) 3 1) (f 1) host a.toNat i) (f 1) (4 + ((i : Nat) : Int)) 45)) dX6_ask_248 rfl lk_RX6_70 o_X6_lays hM5 (w_X6_lays hl hM5 (f 1) (4 + ((i : Nat) : Int)) 45 (by omega) (by omega)) (as := [.int (iI (f 1)), .int (iI (4 + ((i : Nat) : Int))), .int (iI 45)]) rfl rfl rfl (by decide) (by decide) (k8 rfl) (fun h183 hM183 hX183 => ?_)
                            have hF183 := kFm_tr hF5 hX183
                            refine k_iinc (a := ((i : Nat) : Int)) (pc1 := 254) dX6_ask_251 rfl rfl (by decide) (k_loc (L' := [some (.ref o), some (.int (iI host)), some (.int (iI ((a.toNat : Nat) : Int))), some (.int (iI k)), some (.int (iI t)), some (.int (iI n)), some (.int (iI 1)), some (.int (iI (((a.toNat ||| (2 ^ host.toNat)) : Nat) : Int))), some (.int (iI (bsyF f (-1) (-1) (a.toNat ||| (2 ^ host.toNat)) k t n))), some (.int (iI (smlF f (-1) (-1) (a.toNat ||| (2 ^ host.toNat)) k t n))), some (.int (iI (f 1))), some (.int (iI (((i : Nat) : Int) + 1)))]) rfl ?_)
                            refine k_goto dX6_ask_254 (tgt := 211) rfl ?_
                            have hbit : (if Nat.testBit a.toNat i then (1 : Int) else 0) = 1 → a.toNat.testBit i = true := fun z => by
                              cases e : a.toNat.testBit i with
                              | true => rfl
                              | false => rw [e] at z; exact absurd z (by decide)
                            have hnbit : (if Nat.testBit a.toNat i then (1 : Int) else 0) ≠ 1 → ¬ a.toNat.testBit i = true := fun z y => by rw [y] at z; exact z rfl
                            have e : (anF (lyF (lyF (lyF (lyF f (f 1) 0 (f 2)) (f 1) 1 host) (f 1) 2 n) (f 1) 3 1) (f 1) host a.toNat (i + 1)) = (lyF (anF (lyF (lyF (lyF (lyF f (f 1) 0 (f 2)) (f 1) 1 host) (f 1) 2 n) (f 1) 3 1) (f 1) host a.toNat i) (f 1) (4 + ((i : Nat) : Int)) 45) := congrArg (lyF (anF (lyF (lyF (lyF (lyF f (f 1) 0 (f 2)) (f 1) 1 host) (f 1) 2 n) (f 1) 3 1) (f 1) host a.toNat i) (f 1) (4 + ((i : Nat) : Int))) (kI_f (fun z => by first | exact z.1 (by omega) | exact hnbit c238 z.2))
                            rw [← e] at hM183
                            exact ih211 _ (by omega) (i + 1) h183 rfl (by omega) hM183 hF183
                          · skip
                            refine k_bipush 111 (pc1 := 243) dX6_ask_241 rfl (by decide) ?_
                            refine k_goto dX6_ask_243 (tgt := 248) rfl ?_
                            refine k_callVMn (c' := 0) (wm' := (-1)) (wd' := (-1)) (f' := (lyF (anF (lyF (lyF (lyF (lyF f (f 1) 0 (f 2)) (f 1) 1 host) (f 1) 2 n) (f 1) 3 1) (f 1) host a.toNat i) (f 1) (4 + ((i : Nat) : Int)) 111)) dX6_ask_248 rfl lk_RX6_70 o_X6_lays hM5 (w_X6_lays hl hM5 (f 1) (4 + ((i : Nat) : Int)) 111 (by omega) (by omega)) (as := [.int (iI (f 1)), .int (iI (4 + ((i : Nat) : Int))), .int (iI 111)]) rfl rfl rfl (by decide) (by decide) (k8 rfl) (fun h184 hM184 hX184 => ?_)
                            have hF184 := kFm_tr hF5 hX184
                            refine k_iinc (a := ((i : Nat) : Int)) (pc1 := 254) dX6_ask_251 rfl rfl (by decide) (k_loc (L' := [some (.ref o), some (.int (iI host)), some (.int (iI ((a.toNat : Nat) : Int))), some (.int (iI k)), some (.int (iI t)), some (.int (iI n)), some (.int (iI 1)), some (.int (iI (((a.toNat ||| (2 ^ host.toNat)) : Nat) : Int))), some (.int (iI (bsyF f (-1) (-1) (a.toNat ||| (2 ^ host.toNat)) k t n))), some (.int (iI (smlF f (-1) (-1) (a.toNat ||| (2 ^ host.toNat)) k t n))), some (.int (iI (f 1))), some (.int (iI (((i : Nat) : Int) + 1)))]) rfl ?_)
                            refine k_goto dX6_ask_254 (tgt := 211) rfl ?_
                            have hbit : (if Nat.testBit a.toNat i then (1 : Int) else 0) = 1 → a.toNat.testBit i = true := fun z => by
                              cases e : a.toNat.testBit i with
                              | true => rfl
                              | false => rw [e] at z; exact absurd z (by decide)
                            have hnbit : (if Nat.testBit a.toNat i then (1 : Int) else 0) ≠ 1 → ¬ a.toNat.testBit i = true := fun z y => by rw [y] at z; exact z rfl
                            have e : (anF (lyF (lyF (lyF (lyF f (f 1) 0 (f 2)) (f 1) 1 host) (f 1) 2 n) (f 1) 3 1) (f 1) host a.toNat (i + 1)) = (lyF (anF (lyF (lyF (lyF (lyF f (f 1) 0 (f 2)) (f 1) 1 host) (f 1) 2 n) (f 1) 3 1) (f 1) host a.toNat i) (f 1) (4 + ((i : Nat) : Int)) 111) := congrArg (lyF (anF (lyF (lyF (lyF (lyF f (f 1) 0 (f 2)) (f 1) 1 host) (f 1) 2 n) (f 1) 3 1) (f 1) host a.toNat i) (f 1) (4 + ((i : Nat) : Int))) (kI_t ⟨by omega, hbit c238⟩)
                            rw [← e] at hM184
                            exact ih211 _ (by omega) (i + 1) h184 rfl (by omega) hM184 hF184
                    exact hloop211 _ 0 h178 rfl (by omega) hM178 hF178
                  · skip
                    refine k_aload_n (pc1 := 151) dX6_ask_150 rfl rfl ?_
                    refine k_iconst (pc1 := 152) dX6_ask_151 rfl ?_
                    refine k_iconst (pc1 := 153) dX6_ask_152 rfl ?_
                    refine k_iconst (pc1 := 154) dX6_ask_153 rfl ?_
                    refine k_callVM (c' := 3) (wm' := (-1)) (wd' := (-1)) (f' := (rfF f 2 0)) (v := .int (iI 1)) dX6_ask_154 rfl lk_RX6_86 o_X6_refuses hM174 (w_X6_refuses hl hM174 2 0 (by decide)) (as := [.int (iI 2), .int (iI 0), .int (iI 3)]) rfl rfl rfl (by decide) (by decide) (k8 rfl) (fun h185 hM185 hX185 => ?_)
                    have hF185 := kFm_tr hF174 hX185
                    refine k_if_eq (a := 1) dX6_ask_157 rfl (tgt := 162) rfl (by decide) (fun c => absurd c (by decide)) (fun _ => ?_)
                    refine k_iconst (pc1 := 161) dX6_ask_160 rfl ?_
                    exact k_iret dX6_ask_161 rfl rfl (kMt_mk (c1 := 3) (v1 := 0) (f1 := (rfF f 2 0)) (by unfold Task; first | exact kI_f (by omega) | (rw [kI_t (by omega)]; first | exact kI_t (by omega) | (rw [kI_f (by omega)]; first | exact kI_t (by omega) | (rw [kI_f (by omega)]; first | exact kI_t (by omega) | exact kI_f (by omega))))) hM185 hF185)
                · skip
                  refine k_aload_n (pc1 := 120) dX6_ask_119 rfl rfl ?_
                  refine k_iconst (pc1 := 121) dX6_ask_120 rfl ?_
                  refine k_iload (pc1 := 123) dX6_ask_121 rfl rfl ?_
                  refine k_iconst (pc1 := 124) dX6_ask_123 rfl ?_
                  refine k_callVM (c' := 3) (wm' := (-1)) (wd' := (-1)) (f' := (rfF f 1 (bsyF f (-1) (-1) (a.toNat ||| (2 ^ host.toNat)) k t n))) (v := .int (iI 1)) dX6_ask_124 rfl lk_RX6_86 o_X6_refuses hM174 (w_X6_refuses hl hM174 1 (bsyF f (-1) (-1) (a.toNat ||| (2 ^ host.toNat)) k t n) (by decide)) (as := [.int (iI 1), .int (iI (bsyF f (-1) (-1) (a.toNat ||| (2 ^ host.toNat)) k t n)), .int (iI 3)]) rfl rfl rfl (by decide) (by decide) (k8 rfl) (fun h186 hM186 hX186 => ?_)
                  have hF186 := kFm_tr hF174 hX186
                  refine k_if_eq (a := 1) dX6_ask_127 rfl (tgt := 132) rfl (by decide) (fun c => absurd c (by decide)) (fun _ => ?_)
                  refine k_iconst (pc1 := 131) dX6_ask_130 rfl ?_
                  exact k_iret dX6_ask_131 rfl rfl (kMt_mk (c1 := 3) (v1 := 0) (f1 := (rfF f 1 (bsyF f (-1) (-1) (a.toNat ||| (2 ^ host.toNat)) k t n))) (by unfold Task; first | exact kI_f (by omega) | (rw [kI_t (by omega)]; first | exact kI_t (by omega) | (rw [kI_f (by omega)]; first | exact kI_t (by omega) | (rw [kI_f (by omega)]; first | exact kI_t (by omega) | exact kI_f (by omega))))) hM186 hF186)
              · skip
                refine k_iconst (pc1 := 82) dX6_ask_81 rfl ?_
                refine k_goto dX6_ask_82 (tgt := 86) rfl ?_
                refine k_callVM (c' := 2) (wm' := (-1)) (wd' := (-1)) (f' := f) (v := .int (iI 1)) dX6_ask_86 rfl lk_RX6_34 o_X6_fails hM (w_X6_failsT hl hM (by decide)) (as := [.int (iI 2)]) rfl rfl rfl (by decide) (by decide) (k8 rfl) (fun h187 hM187 hX187 => ?_)
                have hF187 := kFm_tr (kFm_rf o g r h) hX187
                refine k_if_eq (a := 1) dX6_ask_89 rfl (tgt := 94) rfl (by decide) (fun c => absurd c (by decide)) (fun _ => ?_)
                refine k_iconst (pc1 := 93) dX6_ask_92 rfl ?_
                exact k_iret dX6_ask_93 rfl rfl (kMt_mk (c1 := 2) (v1 := 0) (f1 := f) (by unfold Task; first | exact kI_f (by omega) | (rw [kI_t (by omega)]; first | exact kI_t (by omega) | (rw [kI_f (by omega)]; first | exact kI_t (by omega) | (rw [kI_f (by omega)]; first | exact kI_t (by omega) | exact kI_f (by omega))))) hM187 hF187)
