/-! ===== the reference: its public methods, walked ===== -/
theorem w_X6_failsT {l : Launch} {G : kG} {h : kAH} {o g r : Nat} {c wm wd : Int} {f : Nat → Int} (hl : l.stackTraces = false) (hM : kMd G h o g r c wm wd f) {p : Int} (hp : 0 < p ∧ p < 100) : kC l G m_X6_fails 1 0 0 [.ref o, .int (iI p)] h (kMq G o g r (some (.int (iI 1))) p wm wd f h) kNo := by
  refine kC_of hl rfl rfl (Nat.le_of_ble_eq_true rfl) (L := [some (.ref o), some (.int (iI p))]) rfl ?_
  refine k_aload_n (pc1 := 1) dX6_fails_0 rfl rfl ?_
  refine k_iload_n (pc1 := 2) dX6_fails_1 rfl rfl ?_
  refine k_putM1 (pc1 := 5) (x := p) rfl dX6_fails_2 rfl hM (fun h1 hM1 hX1 => ?_)
  have hF1 := kFm_tr (kFm_rf o g r h) hX1
  refine k_iload_n (pc1 := 6) dX6_fails_5 rfl rfl ?_
  refine k_if_le (a := p) dX6_fails_6 rfl (tgt := 13) rfl (by omega) (fun c6 : p ≤ 0 => ?_) (fun c6 : ¬ p ≤ 0 => ?_)
  · skip
    refine k_iconst (pc1 := 14) dX6_fails_13 rfl ?_
    exact absurd c6 (by omega)
  · skip
    refine k_iconst (pc1 := 10) dX6_fails_9 rfl ?_
    refine k_goto dX6_fails_10 (tgt := 14) rfl ?_
    exact k_iret dX6_fails_14 rfl rfl ⟨rfl, hM1, hF1⟩
theorem w_X6_failsF {l : Launch} {G : kG} {h : kAH} {o g r : Nat} {c wm wd : Int} {f : Nat → Int} (hl : l.stackTraces = false) (hM : kMd G h o g r c wm wd f)  : kC l G m_X6_fails 1 0 0 [.ref o, .int (iI 0)] h (kMq G o g r (some (.int (iI 0))) 0 wm wd f h) kNo := by
  refine kC_of hl rfl rfl (Nat.le_of_ble_eq_true rfl) (L := [some (.ref o), some (.int (iI 0))]) rfl ?_
  refine k_aload_n (pc1 := 1) dX6_fails_0 rfl rfl ?_
  refine k_iload_n (pc1 := 2) dX6_fails_1 rfl rfl ?_
  refine k_putM1 (pc1 := 5) (x := 0) rfl dX6_fails_2 rfl hM (fun h2 hM2 hX2 => ?_)
  have hF2 := kFm_tr (kFm_rf o g r h) hX2
  refine k_iload_n (pc1 := 6) dX6_fails_5 rfl rfl ?_
  refine k_if_le (a := 0) dX6_fails_6 rfl (tgt := 13) rfl (by decide) (fun _ => ?_) (fun c => absurd c (by decide))
  refine k_iconst (pc1 := 14) dX6_fails_13 rfl ?_
  exact k_iret dX6_fails_14 rfl rfl ⟨rfl, hM2, hF2⟩
theorem w_X6_setRoom {l : Launch} {G : kG} {h : kAH} {o g r : Nat} {c : Int} {f : Nat → Int} (hl : l.stackTraces = false) (hM : kMd G h o g r c (-1) (-1) f) (hW : kWf f) (a b e : Int) (ra : -2147483648 ≤ a ∧ a < 2147483648) (rb : -2147483648 ≤ b ∧ b < 2147483648) (re : -2147483648 ≤ e ∧ e < 2147483648) : kC l G m_X6_setRoom 3 0 0 [.ref o, .int (iI a), .int (iI b), .int (iI e)] h (kMt G o g r (TsetRoom f a b e) h) kNo := by
  have hwm : -1 ≤ (-1 : Int) ∧ (-1 : Int) < 8 := by decide
  have hwd : -1 ≤ (-1 : Int) ∧ (-1 : Int) < 6 := by decide
  refine kC_of hl rfl rfl (Nat.le_of_ble_eq_true rfl) (L := [some (.ref o), some (.int (iI a)), some (.int (iI b)), some (.int (iI e)), none]) rfl ?_
  refine k_aload_n (pc1 := 1) dX6_setRoom_0 rfl rfl ?_
  refine k_iload_n (pc1 := 2) dX6_setRoom_1 rfl rfl ?_
  refine k_callSP dX6_setRoom_2 rfl lk_RX6_30 o_X6_isRoom (w_X6_isRoom hl a (by omega)) (as := [.int (iI a)]) rfl rfl rfl (by decide) (by decide) (k8 rfl) ?_
  refine k_if_eq (a := kB (0 ≤ a ∧ a ≤ 3)) dX6_setRoom_5 rfl (tgt := 31) rfl (kB_r _) (fun c5 : kB (0 ≤ a ∧ a ≤ 3) = 0 => ?_) (fun c5 : kB (0 ≤ a ∧ a ≤ 3) ≠ 0 => ?_)
  · replace c5 : ¬(0 ≤ a ∧ a ≤ 3) := kB_z.mp c5
    refine k_iconst (pc1 := 32) dX6_setRoom_31 rfl ?_
    refine k_callVM (c' := 1) (wm' := (-1)) (wd' := (-1)) (f' := f) (v := .int (iI 1)) dX6_setRoom_32 rfl lk_RX6_34 o_X6_fails hM (w_X6_failsT hl hM (by decide)) (as := [.int (iI 1)]) rfl rfl rfl (by decide) (by decide) (k8 rfl) (fun h3 hM3 hX3 => ?_)
    have hF3 := kFm_tr (kFm_rf o g r h) hX3
    refine k_if_eq (a := 1) dX6_setRoom_35 rfl (tgt := 40) rfl (by decide) (fun c => absurd c (by decide)) (fun _ => ?_)
    refine k_iconst (pc1 := 39) dX6_setRoom_38 rfl ?_
    exact k_iret dX6_setRoom_39 rfl rfl (kMt_mk (c1 := 1) (v1 := 0) (f1 := f) (by first | exact kI_t (by first | omega | assumption) | exact kI_f (by first | omega | assumption)) hM3 hF3)
  · replace c5 : (0 ≤ a ∧ a ≤ 3) := kB_nz.mp c5
    refine k_iload_n (pc1 := 9) dX6_setRoom_8 rfl rfl ?_
    refine k_iconst (pc1 := 10) dX6_setRoom_9 rfl ?_
    refine k_bipush 6 (pc1 := 12) dX6_setRoom_10 rfl (by decide) ?_
    refine k_callSP dX6_setRoom_12 rfl lk_RX6_26 o_X6_in (w_X6_in hl b 0 6 (by omega) (by decide) (by decide)) (as := [.int (iI b), .int (iI 0), .int (iI 6)]) rfl rfl rfl (by decide) (by decide) (k8 rfl) ?_
    refine k_if_eq (a := kB (0 ≤ b ∧ b ≤ 6)) dX6_setRoom_15 rfl (tgt := 31) rfl (kB_r _) (fun c15 : kB (0 ≤ b ∧ b ≤ 6) = 0 => ?_) (fun c15 : kB (0 ≤ b ∧ b ≤ 6) ≠ 0 => ?_)
    · replace c15 : ¬(0 ≤ b ∧ b ≤ 6) := kB_z.mp c15
      refine k_iconst (pc1 := 32) dX6_setRoom_31 rfl ?_
      refine k_callVM (c' := 1) (wm' := (-1)) (wd' := (-1)) (f' := f) (v := .int (iI 1)) dX6_setRoom_32 rfl lk_RX6_34 o_X6_fails hM (w_X6_failsT hl hM (by decide)) (as := [.int (iI 1)]) rfl rfl rfl (by decide) (by decide) (k8 rfl) (fun h4 hM4 hX4 => ?_)
      have hF4 := kFm_tr (kFm_rf o g r h) hX4
      refine k_if_eq (a := 1) dX6_setRoom_35 rfl (tgt := 40) rfl (by decide) (fun c => absurd c (by decide)) (fun _ => ?_)
      refine k_iconst (pc1 := 39) dX6_setRoom_38 rfl ?_
      exact k_iret dX6_setRoom_39 rfl rfl (kMt_mk (c1 := 1) (v1 := 0) (f1 := f) (by first | exact kI_t (by first | omega | assumption) | exact kI_f (by first | omega | assumption)) hM4 hF4)
    · replace c15 : (0 ≤ b ∧ b ≤ 6) := kB_nz.mp c15
      refine k_iload_n (pc1 := 19) dX6_setRoom_18 rfl rfl ?_
      refine k_iconst (pc1 := 20) dX6_setRoom_19 rfl ?_
      refine k_iconst (pc1 := 21) dX6_setRoom_20 rfl ?_
      refine k_callSP dX6_setRoom_21 rfl lk_RX6_26 o_X6_in (w_X6_in hl e 0 1 (by omega) (by decide) (by decide)) (as := [.int (iI e), .int (iI 0), .int (iI 1)]) rfl rfl rfl (by decide) (by decide) (k8 rfl) ?_
      refine k_if_eq (a := kB (0 ≤ e ∧ e ≤ 1)) dX6_setRoom_24 rfl (tgt := 31) rfl (kB_r _) (fun c24 : kB (0 ≤ e ∧ e ≤ 1) = 0 => ?_) (fun c24 : kB (0 ≤ e ∧ e ≤ 1) ≠ 0 => ?_)
      · replace c24 : ¬(0 ≤ e ∧ e ≤ 1) := kB_z.mp c24
        refine k_iconst (pc1 := 32) dX6_setRoom_31 rfl ?_
        refine k_callVM (c' := 1) (wm' := (-1)) (wd' := (-1)) (f' := f) (v := .int (iI 1)) dX6_setRoom_32 rfl lk_RX6_34 o_X6_fails hM (w_X6_failsT hl hM (by decide)) (as := [.int (iI 1)]) rfl rfl rfl (by decide) (by decide) (k8 rfl) (fun h5 hM5 hX5 => ?_)
        have hF5 := kFm_tr (kFm_rf o g r h) hX5
        refine k_if_eq (a := 1) dX6_setRoom_35 rfl (tgt := 40) rfl (by decide) (fun c => absurd c (by decide)) (fun _ => ?_)
        refine k_iconst (pc1 := 39) dX6_setRoom_38 rfl ?_
        exact k_iret dX6_setRoom_39 rfl rfl (kMt_mk (c1 := 1) (v1 := 0) (f1 := f) (by first | exact kI_t (by first | omega | assumption) | exact kI_f (by first | omega | assumption)) hM5 hF5)
      · replace c24 : (0 ≤ e ∧ e ≤ 1) := kB_nz.mp c24
        refine k_iconst (pc1 := 28) dX6_setRoom_27 rfl ?_
        refine k_goto dX6_setRoom_28 (tgt := 32) rfl ?_
        refine k_callVM (c' := 0) (wm' := (-1)) (wd' := (-1)) (f' := f) (v := .int (iI 0)) dX6_setRoom_32 rfl lk_RX6_34 o_X6_fails hM (w_X6_failsF hl hM) (as := [.int (iI 0)]) rfl rfl rfl (by decide) (by decide) (k8 rfl) (fun h6 hM6 hX6 => ?_)
        have hF6 := kFm_tr (kFm_rf o g r h) hX6
        refine k_if_eq (a := 0) dX6_setRoom_35 rfl (tgt := 40) rfl (by decide) (fun _ => ?_) (fun c => absurd c (by decide))
        refine k_aload_n (pc1 := 41) dX6_setRoom_40 rfl rfl ?_
        refine k_get (pc1 := 44) dX6_setRoom_41 rfl fd_RX6_7 hM6.1 (v := .ref g) rfl ?_
        refine k_iconst (pc1 := 45) dX6_setRoom_44 rfl ?_
        refine k_iload_n (pc1 := 46) dX6_setRoom_45 rfl rfl ?_
        refine k_iadd (a := 5) (b := a) (pc1 := 47) dX6_setRoom_46 rfl ?_
        refine k_iald (i := (5 + a)) (f := f) (pc1 := 48) dX6_setRoom_47 rfl hM6.2.1 (N := 380) (by omega) (by omega) (by decide) (k_val (v' := .int (iI (f (5 + a).toNat))) rfl ?_)
        refine k_istore (pc1 := 50) dX6_setRoom_48 rfl (by decide) (k_loc (L' := [some (.ref o), some (.int (iI a)), some (.int (iI b)), some (.int (iI e)), some (.int (iI (f (5 + a).toNat)))]) rfl ?_)
        refine k_aload_n (pc1 := 51) dX6_setRoom_50 rfl rfl ?_
        refine k_get (pc1 := 54) dX6_setRoom_51 rfl fd_RX6_7 hM6.1 (v := .ref g) rfl ?_
        refine k_iconst (pc1 := 55) dX6_setRoom_54 rfl ?_
        refine k_iload_n (pc1 := 56) dX6_setRoom_55 rfl rfl ?_
        refine k_iadd (a := 5) (b := a) (pc1 := 57) dX6_setRoom_56 rfl ?_
        refine k_iload_n (pc1 := 58) dX6_setRoom_57 rfl rfl ?_
        refine k_iastM (pc1 := 59) (i := (5 + a)) (x := b) dX6_setRoom_58 rfl hM6 (by omega) (by omega) (fun h7 hM7 hX7 => ?_)
        have hF7 := kFm_tr hF6 hX7
        refine k_aload_n (pc1 := 60) dX6_setRoom_59 rfl rfl ?_
        refine k_get (pc1 := 63) dX6_setRoom_60 rfl fd_RX6_7 hM7.1 (v := .ref g) rfl ?_
        refine k_bipush 9 (pc1 := 65) dX6_setRoom_63 rfl (by decide) ?_
        refine k_iload_n (pc1 := 66) dX6_setRoom_65 rfl rfl ?_
        refine k_iadd (a := 9) (b := a) (pc1 := 67) dX6_setRoom_66 rfl ?_
        refine k_iload_n (pc1 := 68) dX6_setRoom_67 rfl rfl ?_
        refine k_iastM (pc1 := 69) (i := (9 + a)) (x := e) dX6_setRoom_68 rfl hM7 (by omega) (by omega) (fun h8 hM8 hX8 => ?_)
        have hF8 := kFm_tr hF7 hX8
        refine k_iload (pc1 := 71) dX6_setRoom_69 rfl rfl ?_
        exact k_iret dX6_setRoom_71 rfl rfl (kMt_mk (c1 := 0) (v1 := (f (5 + a).toNat)) (f1 := (kiu (kiu f (5 + a).toNat b) (9 + a).toNat e)) (by first | exact kI_t (by first | omega | assumption) | exact kI_f (by first | omega | assumption)) hM8 hF8)
theorem w_X6_setGap {l : Launch} {G : kG} {h : kAH} {o g r : Nat} {c : Int} {f : Nat → Int} (hl : l.stackTraces = false) (hM : kMd G h o g r c (-1) (-1) f) (hW : kWf f) (a : Int) (ra : -2147483648 ≤ a ∧ a < 2147483648) : kC l G m_X6_setGap 2 0 0 [.ref o, .int (iI a)] h (kMt G o g r (TsetGap f a) h) kNo := by
  have hwm : -1 ≤ (-1 : Int) ∧ (-1 : Int) < 8 := by decide
  have hwd : -1 ≤ (-1 : Int) ∧ (-1 : Int) < 6 := by decide
  refine kC_of hl rfl rfl (Nat.le_of_ble_eq_true rfl) (L := [some (.ref o), some (.int (iI a)), none]) rfl ?_
  refine k_aload_n (pc1 := 1) dX6_setGap_0 rfl rfl ?_
  refine k_iload_n (pc1 := 2) dX6_setGap_1 rfl rfl ?_
  refine k_iconst (pc1 := 3) dX6_setGap_2 rfl ?_
  refine k_iconst (pc1 := 4) dX6_setGap_3 rfl ?_
  refine k_callSP dX6_setGap_4 rfl lk_RX6_26 o_X6_in (w_X6_in hl a 0 3 (by omega) (by decide) (by decide)) (as := [.int (iI a), .int (iI 0), .int (iI 3)]) rfl rfl rfl (by decide) (by decide) (k8 rfl) ?_
  refine k_if_eq (a := kB (0 ≤ a ∧ a ≤ 3)) dX6_setGap_7 rfl (tgt := 14) rfl (kB_r _) (fun c7 : kB (0 ≤ a ∧ a ≤ 3) = 0 => ?_) (fun c7 : kB (0 ≤ a ∧ a ≤ 3) ≠ 0 => ?_)
  · replace c7 : ¬(0 ≤ a ∧ a ≤ 3) := kB_z.mp c7
    refine k_iconst (pc1 := 15) dX6_setGap_14 rfl ?_
    refine k_callVM (c' := 1) (wm' := (-1)) (wd' := (-1)) (f' := f) (v := .int (iI 1)) dX6_setGap_15 rfl lk_RX6_34 o_X6_fails hM (w_X6_failsT hl hM (by decide)) (as := [.int (iI 1)]) rfl rfl rfl (by decide) (by decide) (k8 rfl) (fun h9 hM9 hX9 => ?_)
    have hF9 := kFm_tr (kFm_rf o g r h) hX9
    refine k_if_eq (a := 1) dX6_setGap_18 rfl (tgt := 23) rfl (by decide) (fun c => absurd c (by decide)) (fun _ => ?_)
    refine k_iconst (pc1 := 22) dX6_setGap_21 rfl ?_
    exact k_iret dX6_setGap_22 rfl rfl (kMt_mk (c1 := 1) (v1 := 0) (f1 := f) (by first | exact kI_t (by first | omega | assumption) | exact kI_f (by first | omega | assumption)) hM9 hF9)
  · replace c7 : (0 ≤ a ∧ a ≤ 3) := kB_nz.mp c7
    refine k_iconst (pc1 := 11) dX6_setGap_10 rfl ?_
    refine k_goto dX6_setGap_11 (tgt := 15) rfl ?_
    refine k_callVM (c' := 0) (wm' := (-1)) (wd' := (-1)) (f' := f) (v := .int (iI 0)) dX6_setGap_15 rfl lk_RX6_34 o_X6_fails hM (w_X6_failsF hl hM) (as := [.int (iI 0)]) rfl rfl rfl (by decide) (by decide) (k8 rfl) (fun h10 hM10 hX10 => ?_)
    have hF10 := kFm_tr (kFm_rf o g r h) hX10
    refine k_if_eq (a := 0) dX6_setGap_18 rfl (tgt := 23) rfl (by decide) (fun _ => ?_) (fun c => absurd c (by decide))
    refine k_aload_n (pc1 := 24) dX6_setGap_23 rfl rfl ?_
    refine k_get (pc1 := 27) dX6_setGap_24 rfl fd_RX6_7 hM10.1 (v := .ref g) rfl ?_
    refine k_iconst (pc1 := 28) dX6_setGap_27 rfl ?_
    refine k_iald (i := 0) (f := f) (pc1 := 29) dX6_setGap_28 rfl hM10.2.1 (N := 380) (by omega) (by omega) (by decide) (k_val (v' := .int (iI (f 0))) rfl ?_)
    refine k_istore_n (pc1 := 30) dX6_setGap_29 rfl (by decide) (k_loc (L' := [some (.ref o), some (.int (iI a)), some (.int (iI (f 0)))]) rfl ?_)
    refine k_aload_n (pc1 := 31) dX6_setGap_30 rfl rfl ?_
    refine k_get (pc1 := 34) dX6_setGap_31 rfl fd_RX6_7 hM10.1 (v := .ref g) rfl ?_
    refine k_iconst (pc1 := 35) dX6_setGap_34 rfl ?_
    refine k_iload_n (pc1 := 36) dX6_setGap_35 rfl rfl ?_
    refine k_iastM (pc1 := 37) (i := 0) (x := a) dX6_setGap_36 rfl hM10 (by omega) (by omega) (fun h11 hM11 hX11 => ?_)
    have hF11 := kFm_tr hF10 hX11
    refine k_iload_n (pc1 := 38) dX6_setGap_37 rfl rfl ?_
    exact k_iret dX6_setGap_38 rfl rfl (kMt_mk (c1 := 0) (v1 := (f 0)) (f1 := (kiu f 0 a)) (by first | exact kI_t (by first | omega | assumption) | exact kI_f (by first | omega | assumption)) hM11 hF11)
theorem w_X6_seatsOf {l : Launch} {G : kG} {h : kAH} {o g r : Nat} {c : Int} {f : Nat → Int} (hl : l.stackTraces = false) (hM : kMd G h o g r c (-1) (-1) f) (hW : kWf f) (a : Int) (ra : -2147483648 ≤ a ∧ a < 2147483648) : kC l G m_X6_seatsOf 3 0 0 [.ref o, .int (iI a)] h (kMt G o g r (TseatsOf f a) h) kNo := by
  have hwm : -1 ≤ (-1 : Int) ∧ (-1 : Int) < 8 := by decide
  have hwd : -1 ≤ (-1 : Int) ∧ (-1 : Int) < 6 := by decide
  refine kC_of hl rfl rfl (Nat.le_of_ble_eq_true rfl) (L := [some (.ref o), some (.int (iI a))]) rfl ?_
  refine k_aload_n (pc1 := 1) dX6_seatsOf_0 rfl rfl ?_
  refine k_iload_n (pc1 := 2) dX6_seatsOf_1 rfl rfl ?_
  refine k_callSP dX6_seatsOf_2 rfl lk_RX6_30 o_X6_isRoom (w_X6_isRoom hl a (by omega)) (as := [.int (iI a)]) rfl rfl rfl (by decide) (by decide) (k8 rfl) ?_
  refine k_if_eq (a := kB (0 ≤ a ∧ a ≤ 3)) dX6_seatsOf_5 rfl (tgt := 12) rfl (kB_r _) (fun c5 : kB (0 ≤ a ∧ a ≤ 3) = 0 => ?_) (fun c5 : kB (0 ≤ a ∧ a ≤ 3) ≠ 0 => ?_)
  · replace c5 : ¬(0 ≤ a ∧ a ≤ 3) := kB_z.mp c5
    refine k_iconst (pc1 := 13) dX6_seatsOf_12 rfl ?_
    refine k_callVM (c' := 1) (wm' := (-1)) (wd' := (-1)) (f' := f) (v := .int (iI 1)) dX6_seatsOf_13 rfl lk_RX6_34 o_X6_fails hM (w_X6_failsT hl hM (by decide)) (as := [.int (iI 1)]) rfl rfl rfl (by decide) (by decide) (k8 rfl) (fun h12 hM12 hX12 => ?_)
    have hF12 := kFm_tr (kFm_rf o g r h) hX12
    refine k_if_eq (a := 1) dX6_seatsOf_16 rfl (tgt := 23) rfl (by decide) (fun c => absurd c (by decide)) (fun _ => ?_)
    refine k_iconst (pc1 := 20) dX6_seatsOf_19 rfl ?_
    refine k_goto dX6_seatsOf_20 (tgt := 31) rfl ?_
    exact k_iret dX6_seatsOf_31 rfl rfl (kMt_mk (c1 := 1) (v1 := 0) (f1 := f) (by first | exact kI_t (by first | omega | assumption) | exact kI_f (by first | omega | assumption)) hM12 hF12)
  · replace c5 : (0 ≤ a ∧ a ≤ 3) := kB_nz.mp c5
    refine k_iconst (pc1 := 9) dX6_seatsOf_8 rfl ?_
    refine k_goto dX6_seatsOf_9 (tgt := 13) rfl ?_
    refine k_callVM (c' := 0) (wm' := (-1)) (wd' := (-1)) (f' := f) (v := .int (iI 0)) dX6_seatsOf_13 rfl lk_RX6_34 o_X6_fails hM (w_X6_failsF hl hM) (as := [.int (iI 0)]) rfl rfl rfl (by decide) (by decide) (k8 rfl) (fun h13 hM13 hX13 => ?_)
    have hF13 := kFm_tr (kFm_rf o g r h) hX13
    refine k_if_eq (a := 0) dX6_seatsOf_16 rfl (tgt := 23) rfl (by decide) (fun _ => ?_) (fun c => absurd c (by decide))
    refine k_aload_n (pc1 := 24) dX6_seatsOf_23 rfl rfl ?_
    refine k_get (pc1 := 27) dX6_seatsOf_24 rfl fd_RX6_7 hM13.1 (v := .ref g) rfl ?_
    refine k_iconst (pc1 := 28) dX6_seatsOf_27 rfl ?_
    refine k_iload_n (pc1 := 29) dX6_seatsOf_28 rfl rfl ?_
    refine k_iadd (a := 5) (b := a) (pc1 := 30) dX6_seatsOf_29 rfl ?_
    refine k_iald (i := (5 + a)) (f := f) (pc1 := 31) dX6_seatsOf_30 rfl hM13.2.1 (N := 380) (by omega) (by omega) (by decide) (k_val (v' := .int (iI (f (5 + a).toNat))) rfl ?_)
    exact k_iret dX6_seatsOf_31 rfl rfl (kMt_mk (c1 := 0) (v1 := (f (5 + a).toNat)) (f1 := f) (by first | exact kI_t (by first | omega | assumption) | exact kI_f (by first | omega | assumption)) hM13 hF13)
theorem w_X6_houseOf {l : Launch} {G : kG} {h : kAH} {o g r : Nat} {c : Int} {f : Nat → Int} (hl : l.stackTraces = false) (hM : kMd G h o g r c (-1) (-1) f) (hW : kWf f) (a : Int) (ra : -2147483648 ≤ a ∧ a < 2147483648) : kC l G m_X6_houseOf 3 0 0 [.ref o, .int (iI a)] h (kMt G o g r (ThouseOf f a) h) kNo := by
  have hwm : -1 ≤ (-1 : Int) ∧ (-1 : Int) < 8 := by decide
  have hwd : -1 ≤ (-1 : Int) ∧ (-1 : Int) < 6 := by decide
  refine kC_of hl rfl rfl (Nat.le_of_ble_eq_true rfl) (L := [some (.ref o), some (.int (iI a))]) rfl ?_
  refine k_aload_n (pc1 := 1) dX6_houseOf_0 rfl rfl ?_
  refine k_iload_n (pc1 := 2) dX6_houseOf_1 rfl rfl ?_
  refine k_callSP dX6_houseOf_2 rfl lk_RX6_30 o_X6_isRoom (w_X6_isRoom hl a (by omega)) (as := [.int (iI a)]) rfl rfl rfl (by decide) (by decide) (k8 rfl) ?_
  refine k_if_eq (a := kB (0 ≤ a ∧ a ≤ 3)) dX6_houseOf_5 rfl (tgt := 12) rfl (kB_r _) (fun c5 : kB (0 ≤ a ∧ a ≤ 3) = 0 => ?_) (fun c5 : kB (0 ≤ a ∧ a ≤ 3) ≠ 0 => ?_)
  · replace c5 : ¬(0 ≤ a ∧ a ≤ 3) := kB_z.mp c5
    refine k_iconst (pc1 := 13) dX6_houseOf_12 rfl ?_
    refine k_callVM (c' := 1) (wm' := (-1)) (wd' := (-1)) (f' := f) (v := .int (iI 1)) dX6_houseOf_13 rfl lk_RX6_34 o_X6_fails hM (w_X6_failsT hl hM (by decide)) (as := [.int (iI 1)]) rfl rfl rfl (by decide) (by decide) (k8 rfl) (fun h14 hM14 hX14 => ?_)
    have hF14 := kFm_tr (kFm_rf o g r h) hX14
    refine k_if_eq (a := 1) dX6_houseOf_16 rfl (tgt := 23) rfl (by decide) (fun c => absurd c (by decide)) (fun _ => ?_)
    refine k_iconst (pc1 := 20) dX6_houseOf_19 rfl ?_
    refine k_goto dX6_houseOf_20 (tgt := 32) rfl ?_
    exact k_iret dX6_houseOf_32 rfl rfl (kMt_mk (c1 := 1) (v1 := 0) (f1 := f) (by first | exact kI_t (by first | omega | assumption) | exact kI_f (by first | omega | assumption)) hM14 hF14)
  · replace c5 : (0 ≤ a ∧ a ≤ 3) := kB_nz.mp c5
    refine k_iconst (pc1 := 9) dX6_houseOf_8 rfl ?_
    refine k_goto dX6_houseOf_9 (tgt := 13) rfl ?_
    refine k_callVM (c' := 0) (wm' := (-1)) (wd' := (-1)) (f' := f) (v := .int (iI 0)) dX6_houseOf_13 rfl lk_RX6_34 o_X6_fails hM (w_X6_failsF hl hM) (as := [.int (iI 0)]) rfl rfl rfl (by decide) (by decide) (k8 rfl) (fun h15 hM15 hX15 => ?_)
    have hF15 := kFm_tr (kFm_rf o g r h) hX15
    refine k_if_eq (a := 0) dX6_houseOf_16 rfl (tgt := 23) rfl (by decide) (fun _ => ?_) (fun c => absurd c (by decide))
    refine k_aload_n (pc1 := 24) dX6_houseOf_23 rfl rfl ?_
    refine k_get (pc1 := 27) dX6_houseOf_24 rfl fd_RX6_7 hM15.1 (v := .ref g) rfl ?_
    refine k_bipush 9 (pc1 := 29) dX6_houseOf_27 rfl (by decide) ?_
    refine k_iload_n (pc1 := 30) dX6_houseOf_29 rfl rfl ?_
    refine k_iadd (a := 9) (b := a) (pc1 := 31) dX6_houseOf_30 rfl ?_
    refine k_iald (i := (9 + a)) (f := f) (pc1 := 32) dX6_houseOf_31 rfl hM15.2.1 (N := 380) (by omega) (by omega) (by decide) (k_val (v' := .int (iI (f (9 + a).toNat))) rfl ?_)
    exact k_iret dX6_houseOf_32 rfl rfl (kMt_mk (c1 := 0) (v1 := (f (9 + a).toNat)) (f1 := f) (by first | exact kI_t (by first | omega | assumption) | exact kI_f (by first | omega | assumption)) hM15 hF15)
theorem w_X6_meetingCount {l : Launch} {G : kG} {h : kAH} {o g r : Nat} {c : Int} {f : Nat → Int} (hl : l.stackTraces = false) (hM : kMd G h o g r c (-1) (-1) f) (hW : kWf f)  : kC l G m_X6_meetingCount 1 0 0 [.ref o] h (kMt G o g r (((0, f 1, f) : kT)) h) kNo := by
  have hwm : -1 ≤ (-1 : Int) ∧ (-1 : Int) < 8 := by decide
  have hwd : -1 ≤ (-1 : Int) ∧ (-1 : Int) < 6 := by decide
  refine kC_of hl rfl rfl (Nat.le_of_ble_eq_true rfl) (L := [some (.ref o)]) rfl ?_
  refine k_aload_n (pc1 := 1) dX6_meetingCount_0 rfl rfl ?_
  refine k_iconst (pc1 := 2) dX6_meetingCount_1 rfl ?_
  refine k_putM1 (pc1 := 5) (x := 0) rfl dX6_meetingCount_2 rfl hM (fun h16 hM16 hX16 => ?_)
  have hF16 := kFm_tr (kFm_rf o g r h) hX16
  refine k_aload_n (pc1 := 6) dX6_meetingCount_5 rfl rfl ?_
  refine k_get (pc1 := 9) dX6_meetingCount_6 rfl fd_RX6_7 hM16.1 (v := .ref g) rfl ?_
  refine k_iconst (pc1 := 10) dX6_meetingCount_9 rfl ?_
  refine k_iald (i := 1) (f := f) (pc1 := 11) dX6_meetingCount_10 rfl hM16.2.1 (N := 380) (by omega) (by omega) (by decide) (k_val (v' := .int (iI (f 1))) rfl ?_)
  exact k_iret dX6_meetingCount_11 rfl rfl (kMt_mk (c1 := 0) (v1 := (f 1)) (f1 := f) (by rfl) hM16 hF16)
theorem w_X6_meetingAt {l : Launch} {G : kG} {h : kAH} {o g r : Nat} {c : Int} {f : Nat → Int} (hl : l.stackTraces = false) (hM : kMd G h o g r c (-1) (-1) f) (hW : kWf f) (a : Int) (ra : -2147483648 ≤ a ∧ a < 2147483648) : kC l G m_X6_meetingAt 2 0 0 [.ref o, .int (iI a)] h (kMt G o g r (TmeetingAt f a) h) kNo := by
  have hwm : -1 ≤ (-1 : Int) ∧ (-1 : Int) < 8 := by decide
  have hwd : -1 ≤ (-1 : Int) ∧ (-1 : Int) < 6 := by decide
  have h8 := kWf_cnt hW
  have h9 := kWf_nxt hW
  refine kC_of hl rfl rfl (Nat.le_of_ble_eq_true rfl) (L := [some (.ref o), some (.int (iI a))]) rfl ?_
  refine k_aload_n (pc1 := 1) dX6_meetingAt_0 rfl rfl ?_
  refine k_iload_n (pc1 := 2) dX6_meetingAt_1 rfl rfl ?_
  refine k_iconst (pc1 := 3) dX6_meetingAt_2 rfl ?_
  refine k_aload_n (pc1 := 4) dX6_meetingAt_3 rfl rfl ?_
  refine k_get (pc1 := 7) dX6_meetingAt_4 rfl fd_RX6_7 hM.1 (v := .ref g) rfl ?_
  refine k_iconst (pc1 := 8) dX6_meetingAt_7 rfl ?_
  refine k_iald (i := 1) (f := f) (pc1 := 9) dX6_meetingAt_8 rfl hM.2.1 (N := 380) (by omega) (by omega) (by decide) (k_val (v' := .int (iI (f 1))) rfl ?_)
  refine k_iconst (pc1 := 10) dX6_meetingAt_9 rfl ?_
  refine k_isub (a := (f 1)) (b := 1) (pc1 := 11) dX6_meetingAt_10 rfl ?_
  refine k_callSP dX6_meetingAt_11 rfl lk_RX6_26 o_X6_in (w_X6_in hl a 0 ((f 1) - 1) (by omega) (by decide) (by omega)) (as := [.int (iI a), .int (iI 0), .int (iI ((f 1) - 1))]) rfl rfl rfl (by decide) (by decide) (k8 rfl) ?_
  refine k_if_eq (a := kB (0 ≤ a ∧ a ≤ ((f 1) - 1))) dX6_meetingAt_14 rfl (tgt := 21) rfl (kB_r _) (fun c14 : kB (0 ≤ a ∧ a ≤ ((f 1) - 1)) = 0 => ?_) (fun c14 : kB (0 ≤ a ∧ a ≤ ((f 1) - 1)) ≠ 0 => ?_)
  · replace c14 : ¬(0 ≤ a ∧ a ≤ ((f 1) - 1)) := kB_z.mp c14
    refine k_iconst (pc1 := 22) dX6_meetingAt_21 rfl ?_
    refine k_callVM (c' := 1) (wm' := (-1)) (wd' := (-1)) (f' := f) (v := .int (iI 1)) dX6_meetingAt_22 rfl lk_RX6_34 o_X6_fails hM (w_X6_failsT hl hM (by decide)) (as := [.int (iI 1)]) rfl rfl rfl (by decide) (by decide) (k8 rfl) (fun h17 hM17 hX17 => ?_)
    have hF17 := kFm_tr (kFm_rf o g r h) hX17
    refine k_if_eq (a := 1) dX6_meetingAt_25 rfl (tgt := 32) rfl (by decide) (fun c => absurd c (by decide)) (fun _ => ?_)
    refine k_iconst (pc1 := 29) dX6_meetingAt_28 rfl ?_
    refine k_goto dX6_meetingAt_29 (tgt := 38) rfl ?_
    exact k_iret dX6_meetingAt_38 rfl rfl (kMt_mk (c1 := 1) (v1 := 0) (f1 := f) (by first | exact kI_t (by first | omega | assumption) | exact kI_f (by first | omega | assumption)) hM17 hF17)
  · replace c14 : (0 ≤ a ∧ a ≤ ((f 1) - 1)) := kB_nz.mp c14
    refine k_iconst (pc1 := 18) dX6_meetingAt_17 rfl ?_
    refine k_goto dX6_meetingAt_18 (tgt := 22) rfl ?_
    refine k_callVM (c' := 0) (wm' := (-1)) (wd' := (-1)) (f' := f) (v := .int (iI 0)) dX6_meetingAt_22 rfl lk_RX6_34 o_X6_fails hM (w_X6_failsF hl hM) (as := [.int (iI 0)]) rfl rfl rfl (by decide) (by decide) (k8 rfl) (fun h18 hM18 hX18 => ?_)
    have hF18 := kFm_tr (kFm_rf o g r h) hX18
    refine k_if_eq (a := 0) dX6_meetingAt_25 rfl (tgt := 32) rfl (by decide) (fun _ => ?_) (fun c => absurd c (by decide))
    refine k_aload_n (pc1 := 33) dX6_meetingAt_32 rfl rfl ?_
    refine k_iload_n (pc1 := 34) dX6_meetingAt_33 rfl rfl ?_
    refine k_iconst (pc1 := 35) dX6_meetingAt_34 rfl ?_
    refine k_callVP dX6_meetingAt_35 rfl lk_RX6_37 o_X6_of (w_X6_of hl hM18 a 0 (by omega) (by omega)) (as := [.int (iI a), .int (iI 0)]) hM18.1 rfl rfl rfl rfl (by decide) (by decide) (k8 rfl) ?_
    exact k_iret dX6_meetingAt_38 rfl rfl (kMt_mk (c1 := 0) (v1 := (oF f a 0)) (f1 := f) (by first | exact kI_t (by first | omega | assumption) | exact kI_f (by first | omega | assumption)) hM18 hF18)
theorem w_X6_isNoneT {l : Launch} {G : kG} {h : kAH} {o g r : Nat} {c : Int} {f : Nat → Int} (hl : l.stackTraces = false) (hM : kMd G h o g r c (-1) (-1) f) (hW : kWf f) {n : Int} (rn : -2147483648 ≤ n ∧ n < 2147483648) (hc : atF f n < 0) : kC l G m_X6_isNone 3 0 0 [.ref o, .int (iI n)] h (kMq G o g r (some (.int (iI 1))) 1 (-1) (-1) f h) kNo := by
  have h8 := kWf_cnt hW
  have h9 := kWf_nxt hW
  have hat := atF_r (n := n) h8.1
  refine kC_of hl rfl rfl (Nat.le_of_ble_eq_true rfl) (L := [some (.ref o), some (.int (iI n))]) rfl ?_
  refine k_aload_n (pc1 := 1) dX6_isNone_0 rfl rfl ?_
  refine k_aload_n (pc1 := 2) dX6_isNone_1 rfl rfl ?_
  refine k_iload_n (pc1 := 3) dX6_isNone_2 rfl rfl ?_
  refine k_callVP dX6_isNone_3 rfl lk_RX6_96 o_X6_at (w_X6_at hl hM n hW (by omega)) (as := [.int (iI n)]) hM.1 rfl rfl rfl rfl (by decide) (by decide) (k8 rfl) ?_
  refine k_if_ge (a := (atF f n)) dX6_isNone_6 rfl (tgt := 13) rfl (by omega) (fun c6 : 0 ≤ (atF f n) => ?_) (fun c6 : (atF f n) < 0 => ?_)
  · skip
    refine k_iconst (pc1 := 14) dX6_isNone_13 rfl ?_
    refine k_callVM (c' := 0) (wm' := (-1)) (wd' := (-1)) (f' := f) (v := .int (iI 0)) dX6_isNone_14 rfl lk_RX6_34 o_X6_fails hM (w_X6_failsF hl hM) (as := [.int (iI 0)]) rfl rfl rfl (by decide) (by decide) (k8 rfl) (fun h19 hM19 hX19 => ?_)
    have hF19 := kFm_tr (kFm_rf o g r h) hX19
    first | exact k_iret dX6_isNone_17 rfl rfl ⟨rfl, hM19, hF19⟩ | exact absurd rfl (by first | omega | assumption) | (exfalso; omega)
  · skip
    refine k_iconst (pc1 := 10) dX6_isNone_9 rfl ?_
    refine k_goto dX6_isNone_10 (tgt := 14) rfl ?_
    refine k_callVM (c' := 1) (wm' := (-1)) (wd' := (-1)) (f' := f) (v := .int (iI 1)) dX6_isNone_14 rfl lk_RX6_34 o_X6_fails hM (w_X6_failsT hl hM (by decide)) (as := [.int (iI 1)]) rfl rfl rfl (by decide) (by decide) (k8 rfl) (fun h20 hM20 hX20 => ?_)
    have hF20 := kFm_tr (kFm_rf o g r h) hX20
    first | exact k_iret dX6_isNone_17 rfl rfl ⟨rfl, hM20, hF20⟩ | exact absurd rfl (by first | omega | assumption) | (exfalso; omega)
theorem w_X6_isNoneF {l : Launch} {G : kG} {h : kAH} {o g r : Nat} {c : Int} {f : Nat → Int} (hl : l.stackTraces = false) (hM : kMd G h o g r c (-1) (-1) f) (hW : kWf f) {n : Int} (rn : -2147483648 ≤ n ∧ n < 2147483648) (hc : ¬ atF f n < 0) : kC l G m_X6_isNone 3 0 0 [.ref o, .int (iI n)] h (kMq G o g r (some (.int (iI 0))) 0 (-1) (-1) f h) kNo := by
  have h8 := kWf_cnt hW
  have h9 := kWf_nxt hW
  have hat := atF_r (n := n) h8.1
  refine kC_of hl rfl rfl (Nat.le_of_ble_eq_true rfl) (L := [some (.ref o), some (.int (iI n))]) rfl ?_
  refine k_aload_n (pc1 := 1) dX6_isNone_0 rfl rfl ?_
  refine k_aload_n (pc1 := 2) dX6_isNone_1 rfl rfl ?_
  refine k_iload_n (pc1 := 3) dX6_isNone_2 rfl rfl ?_
  refine k_callVP dX6_isNone_3 rfl lk_RX6_96 o_X6_at (w_X6_at hl hM n hW (by omega)) (as := [.int (iI n)]) hM.1 rfl rfl rfl rfl (by decide) (by decide) (k8 rfl) ?_
  refine k_if_ge (a := (atF f n)) dX6_isNone_6 rfl (tgt := 13) rfl (by omega) (fun c6 : 0 ≤ (atF f n) => ?_) (fun c6 : (atF f n) < 0 => ?_)
  · skip
    refine k_iconst (pc1 := 14) dX6_isNone_13 rfl ?_
    refine k_callVM (c' := 0) (wm' := (-1)) (wd' := (-1)) (f' := f) (v := .int (iI 0)) dX6_isNone_14 rfl lk_RX6_34 o_X6_fails hM (w_X6_failsF hl hM) (as := [.int (iI 0)]) rfl rfl rfl (by decide) (by decide) (k8 rfl) (fun h21 hM21 hX21 => ?_)
    have hF21 := kFm_tr (kFm_rf o g r h) hX21
    first | exact k_iret dX6_isNone_17 rfl rfl ⟨rfl, hM21, hF21⟩ | exact absurd rfl (by first | omega | assumption) | (exfalso; omega)
  · skip
    refine k_iconst (pc1 := 10) dX6_isNone_9 rfl ?_
    refine k_goto dX6_isNone_10 (tgt := 14) rfl ?_
    refine k_callVM (c' := 1) (wm' := (-1)) (wd' := (-1)) (f' := f) (v := .int (iI 1)) dX6_isNone_14 rfl lk_RX6_34 o_X6_fails hM (w_X6_failsT hl hM (by decide)) (as := [.int (iI 1)]) rfl rfl rfl (by decide) (by decide) (k8 rfl) (fun h22 hM22 hX22 => ?_)
    have hF22 := kFm_tr (kFm_rf o g r h) hX22
    first | exact k_iret dX6_isNone_17 rfl rfl ⟨rfl, hM22, hF22⟩ | exact absurd rfl (by first | omega | assumption) | (exfalso; omega)
theorem w_X6_isNoDateT {l : Launch} {G : kG} {h : kAH} {o g r : Nat} {c : Int} {f : Nat → Int} (hl : l.stackTraces = false) (hM : kMd G h o g r c (-1) (-1) f) (hW : kWf f) {n dd : Int} (rn : -2147483648 ≤ n ∧ n < 2147483648) (rdd : -2147483648 ≤ dd ∧ dd < 2147483648) (hc : atF f n < 0) : kC l G m_X6_isNoDate 4 0 0 [.ref o, .int (iI n), .int (iI dd)] h (kMq G o g r (some (.int (iI 1))) 1 (-1) (-1) f h) kNo := by
  have h8 := kWf_cnt hW
  have h9 := kWf_nxt hW
  have hat := atF_r (n := n) h8.1
  refine kC_of hl rfl rfl (Nat.le_of_ble_eq_true rfl) (L := [some (.ref o), some (.int (iI n)), some (.int (iI dd))]) rfl ?_
  refine k_aload_n (pc1 := 1) dX6_isNoDate_0 rfl rfl ?_
  refine k_iload_n (pc1 := 2) dX6_isNoDate_1 rfl rfl ?_
  by_cases hN0 : atF f n < 0
  · skip
    refine k_callVM (c' := 1) (wm' := (-1)) (wd' := (-1)) (f' := f) (v := .int (iI 1)) dX6_isNoDate_2 rfl lk_RX6_99 o_X6_isNone hM (w_X6_isNoneT hl hM hW (by omega) hN0) (as := [.int (iI n)]) rfl rfl rfl (by decide) (by decide) (k8 rfl) (fun h23 hM23 hX23 => ?_)
    have hF23 := kFm_tr (kFm_rf o g r h) hX23
    refine k_if_ne (a := 1) dX6_isNoDate_5 rfl (tgt := 40) rfl (by decide) (fun _ => ?_) (fun c => absurd c (by decide))
    refine k_iconst (pc1 := 41) dX6_isNoDate_40 rfl ?_
    refine k_goto dX6_isNoDate_41 (tgt := 45) rfl ?_
    first | exact k_iret dX6_isNoDate_45 rfl rfl ⟨rfl, hM23, hF23⟩ | exact absurd rfl (by first | omega | assumption) | (exfalso; omega)
  · skip
    refine k_callVM (c' := 0) (wm' := (-1)) (wd' := (-1)) (f' := f) (v := .int (iI 0)) dX6_isNoDate_2 rfl lk_RX6_99 o_X6_isNone hM (w_X6_isNoneF hl hM hW (by omega) hN0) (as := [.int (iI n)]) rfl rfl rfl (by decide) (by decide) (k8 rfl) (fun h24 hM24 hX24 => ?_)
    have hF24 := kFm_tr (kFm_rf o g r h) hX24
    refine k_if_ne (a := 0) dX6_isNoDate_5 rfl (tgt := 40) rfl (by decide) (fun c => absurd c (by decide)) (fun _ => ?_)
    have hmm := kWf_m hW (m := atF f n) (by omega) (by omega)
    refine k_aload_n (pc1 := 9) dX6_isNoDate_8 rfl rfl ?_
    refine k_iload_n (pc1 := 10) dX6_isNoDate_9 rfl rfl ?_
    refine k_iconst (pc1 := 11) dX6_isNoDate_10 rfl ?_
    refine k_aload_n (pc1 := 12) dX6_isNoDate_11 rfl rfl ?_
    refine k_aload_n (pc1 := 13) dX6_isNoDate_12 rfl rfl ?_
    refine k_iload_n (pc1 := 14) dX6_isNoDate_13 rfl rfl ?_
    refine k_callVP dX6_isNoDate_14 rfl lk_RX6_96 o_X6_at (w_X6_at hl hM24 n hW (by omega)) (as := [.int (iI n)]) hM24.1 rfl rfl rfl rfl (by decide) (by decide) (k8 rfl) ?_
    refine k_iconst (pc1 := 18) dX6_isNoDate_17 rfl ?_
    refine k_callVP dX6_isNoDate_18 rfl lk_RX6_37 o_X6_of (w_X6_of hl hM24 (atF f n) 3 (by omega) (by omega)) (as := [.int (iI (atF f n)), .int (iI 3)]) hM24.1 rfl rfl rfl rfl (by decide) (by decide) (k8 rfl) ?_
    refine k_iconst (pc1 := 22) dX6_isNoDate_21 rfl ?_
    refine k_isub (a := (oF f (atF f n) 3)) (b := 1) (pc1 := 23) dX6_isNoDate_22 rfl ?_
    refine k_callSP dX6_isNoDate_23 rfl lk_RX6_26 o_X6_in (w_X6_in hl dd 0 ((oF f (atF f n) 3) - 1) (by omega) (by decide) (by omega)) (as := [.int (iI dd), .int (iI 0), .int (iI ((oF f (atF f n) 3) - 1))]) rfl rfl rfl (by decide) (by decide) (k8 rfl) ?_
    refine k_if_eq (a := kB (0 ≤ dd ∧ dd ≤ ((oF f (atF f n) 3) - 1))) dX6_isNoDate_26 rfl (tgt := 33) rfl (kB_r _) (fun c26 : kB (0 ≤ dd ∧ dd ≤ ((oF f (atF f n) 3) - 1)) = 0 => ?_) (fun c26 : kB (0 ≤ dd ∧ dd ≤ ((oF f (atF f n) 3) - 1)) ≠ 0 => ?_)
    · replace c26 : ¬(0 ≤ dd ∧ dd ≤ ((oF f (atF f n) 3) - 1)) := kB_z.mp c26
      refine k_iconst (pc1 := 34) dX6_isNoDate_33 rfl ?_
      refine k_callVM (c' := 2) (wm' := (-1)) (wd' := (-1)) (f' := f) (v := .int (iI 1)) dX6_isNoDate_34 rfl lk_RX6_34 o_X6_fails hM24 (w_X6_failsT hl hM24 (by decide)) (as := [.int (iI 2)]) rfl rfl rfl (by decide) (by decide) (k8 rfl) (fun h25 hM25 hX25 => ?_)
      have hF25 := kFm_tr hF24 hX25
      refine k_if_eq (a := 1) dX6_isNoDate_37 rfl (tgt := 44) rfl (by decide) (fun c => absurd c (by decide)) (fun _ => ?_)
      refine k_iconst (pc1 := 41) dX6_isNoDate_40 rfl ?_
      refine k_goto dX6_isNoDate_41 (tgt := 45) rfl ?_
      first | exact k_iret dX6_isNoDate_45 rfl rfl ⟨rfl, hM25, hF25⟩ | exact absurd rfl (by first | omega | assumption) | (exfalso; omega)
    · replace c26 : (0 ≤ dd ∧ dd ≤ ((oF f (atF f n) 3) - 1)) := kB_nz.mp c26
      refine k_iconst (pc1 := 30) dX6_isNoDate_29 rfl ?_
      refine k_goto dX6_isNoDate_30 (tgt := 34) rfl ?_
      refine k_callVM (c' := 0) (wm' := (-1)) (wd' := (-1)) (f' := f) (v := .int (iI 0)) dX6_isNoDate_34 rfl lk_RX6_34 o_X6_fails hM24 (w_X6_failsF hl hM24) (as := [.int (iI 0)]) rfl rfl rfl (by decide) (by decide) (k8 rfl) (fun h26 hM26 hX26 => ?_)
      have hF26 := kFm_tr hF24 hX26
      refine k_if_eq (a := 0) dX6_isNoDate_37 rfl (tgt := 44) rfl (by decide) (fun _ => ?_) (fun c => absurd c (by decide))
      refine k_iconst (pc1 := 45) dX6_isNoDate_44 rfl ?_
      first | exact k_iret dX6_isNoDate_45 rfl rfl ⟨rfl, hM26, hF26⟩ | exact absurd rfl (by first | omega | assumption) | (exfalso; omega)
theorem w_X6_isNoDateU {l : Launch} {G : kG} {h : kAH} {o g r : Nat} {c : Int} {f : Nat → Int} (hl : l.stackTraces = false) (hM : kMd G h o g r c (-1) (-1) f) (hW : kWf f) {n dd : Int} (rn : -2147483648 ≤ n ∧ n < 2147483648) (rdd : -2147483648 ≤ dd ∧ dd < 2147483648) (hc : ¬ atF f n < 0 ∧ ¬ (0 ≤ dd ∧ dd < oF f (atF f n) 3)) : kC l G m_X6_isNoDate 4 0 0 [.ref o, .int (iI n), .int (iI dd)] h (kMq G o g r (some (.int (iI 1))) 2 (-1) (-1) f h) kNo := by
  have h8 := kWf_cnt hW
  have h9 := kWf_nxt hW
  have hat := atF_r (n := n) h8.1
  refine kC_of hl rfl rfl (Nat.le_of_ble_eq_true rfl) (L := [some (.ref o), some (.int (iI n)), some (.int (iI dd))]) rfl ?_
  refine k_aload_n (pc1 := 1) dX6_isNoDate_0 rfl rfl ?_
  refine k_iload_n (pc1 := 2) dX6_isNoDate_1 rfl rfl ?_
  by_cases hN0 : atF f n < 0
  · skip
    refine k_callVM (c' := 1) (wm' := (-1)) (wd' := (-1)) (f' := f) (v := .int (iI 1)) dX6_isNoDate_2 rfl lk_RX6_99 o_X6_isNone hM (w_X6_isNoneT hl hM hW (by omega) hN0) (as := [.int (iI n)]) rfl rfl rfl (by decide) (by decide) (k8 rfl) (fun h27 hM27 hX27 => ?_)
    have hF27 := kFm_tr (kFm_rf o g r h) hX27
    refine k_if_ne (a := 1) dX6_isNoDate_5 rfl (tgt := 40) rfl (by decide) (fun _ => ?_) (fun c => absurd c (by decide))
    refine k_iconst (pc1 := 41) dX6_isNoDate_40 rfl ?_
    refine k_goto dX6_isNoDate_41 (tgt := 45) rfl ?_
    first | exact k_iret dX6_isNoDate_45 rfl rfl ⟨rfl, hM27, hF27⟩ | exact absurd rfl (by first | omega | assumption) | (exfalso; omega)
  · skip
    refine k_callVM (c' := 0) (wm' := (-1)) (wd' := (-1)) (f' := f) (v := .int (iI 0)) dX6_isNoDate_2 rfl lk_RX6_99 o_X6_isNone hM (w_X6_isNoneF hl hM hW (by omega) hN0) (as := [.int (iI n)]) rfl rfl rfl (by decide) (by decide) (k8 rfl) (fun h28 hM28 hX28 => ?_)
    have hF28 := kFm_tr (kFm_rf o g r h) hX28
    refine k_if_ne (a := 0) dX6_isNoDate_5 rfl (tgt := 40) rfl (by decide) (fun c => absurd c (by decide)) (fun _ => ?_)
    have hmm := kWf_m hW (m := atF f n) (by omega) (by omega)
    refine k_aload_n (pc1 := 9) dX6_isNoDate_8 rfl rfl ?_
    refine k_iload_n (pc1 := 10) dX6_isNoDate_9 rfl rfl ?_
    refine k_iconst (pc1 := 11) dX6_isNoDate_10 rfl ?_
    refine k_aload_n (pc1 := 12) dX6_isNoDate_11 rfl rfl ?_
    refine k_aload_n (pc1 := 13) dX6_isNoDate_12 rfl rfl ?_
    refine k_iload_n (pc1 := 14) dX6_isNoDate_13 rfl rfl ?_
    refine k_callVP dX6_isNoDate_14 rfl lk_RX6_96 o_X6_at (w_X6_at hl hM28 n hW (by omega)) (as := [.int (iI n)]) hM28.1 rfl rfl rfl rfl (by decide) (by decide) (k8 rfl) ?_
    refine k_iconst (pc1 := 18) dX6_isNoDate_17 rfl ?_
    refine k_callVP dX6_isNoDate_18 rfl lk_RX6_37 o_X6_of (w_X6_of hl hM28 (atF f n) 3 (by omega) (by omega)) (as := [.int (iI (atF f n)), .int (iI 3)]) hM28.1 rfl rfl rfl rfl (by decide) (by decide) (k8 rfl) ?_
    refine k_iconst (pc1 := 22) dX6_isNoDate_21 rfl ?_
    refine k_isub (a := (oF f (atF f n) 3)) (b := 1) (pc1 := 23) dX6_isNoDate_22 rfl ?_
    refine k_callSP dX6_isNoDate_23 rfl lk_RX6_26 o_X6_in (w_X6_in hl dd 0 ((oF f (atF f n) 3) - 1) (by omega) (by decide) (by omega)) (as := [.int (iI dd), .int (iI 0), .int (iI ((oF f (atF f n) 3) - 1))]) rfl rfl rfl (by decide) (by decide) (k8 rfl) ?_
    refine k_if_eq (a := kB (0 ≤ dd ∧ dd ≤ ((oF f (atF f n) 3) - 1))) dX6_isNoDate_26 rfl (tgt := 33) rfl (kB_r _) (fun c26 : kB (0 ≤ dd ∧ dd ≤ ((oF f (atF f n) 3) - 1)) = 0 => ?_) (fun c26 : kB (0 ≤ dd ∧ dd ≤ ((oF f (atF f n) 3) - 1)) ≠ 0 => ?_)
    · replace c26 : ¬(0 ≤ dd ∧ dd ≤ ((oF f (atF f n) 3) - 1)) := kB_z.mp c26
      refine k_iconst (pc1 := 34) dX6_isNoDate_33 rfl ?_
      refine k_callVM (c' := 2) (wm' := (-1)) (wd' := (-1)) (f' := f) (v := .int (iI 1)) dX6_isNoDate_34 rfl lk_RX6_34 o_X6_fails hM28 (w_X6_failsT hl hM28 (by decide)) (as := [.int (iI 2)]) rfl rfl rfl (by decide) (by decide) (k8 rfl) (fun h29 hM29 hX29 => ?_)
      have hF29 := kFm_tr hF28 hX29
      refine k_if_eq (a := 1) dX6_isNoDate_37 rfl (tgt := 44) rfl (by decide) (fun c => absurd c (by decide)) (fun _ => ?_)
      refine k_iconst (pc1 := 41) dX6_isNoDate_40 rfl ?_
      refine k_goto dX6_isNoDate_41 (tgt := 45) rfl ?_
      first | exact k_iret dX6_isNoDate_45 rfl rfl ⟨rfl, hM29, hF29⟩ | exact absurd rfl (by first | omega | assumption) | (exfalso; omega)
    · replace c26 : (0 ≤ dd ∧ dd ≤ ((oF f (atF f n) 3) - 1)) := kB_nz.mp c26
      refine k_iconst (pc1 := 30) dX6_isNoDate_29 rfl ?_
      refine k_goto dX6_isNoDate_30 (tgt := 34) rfl ?_
      refine k_callVM (c' := 0) (wm' := (-1)) (wd' := (-1)) (f' := f) (v := .int (iI 0)) dX6_isNoDate_34 rfl lk_RX6_34 o_X6_fails hM28 (w_X6_failsF hl hM28) (as := [.int (iI 0)]) rfl rfl rfl (by decide) (by decide) (k8 rfl) (fun h30 hM30 hX30 => ?_)
      have hF30 := kFm_tr hF28 hX30
      refine k_if_eq (a := 0) dX6_isNoDate_37 rfl (tgt := 44) rfl (by decide) (fun _ => ?_) (fun c => absurd c (by decide))
      refine k_iconst (pc1 := 45) dX6_isNoDate_44 rfl ?_
      first | exact k_iret dX6_isNoDate_45 rfl rfl ⟨rfl, hM30, hF30⟩ | exact absurd rfl (by first | omega | assumption) | (exfalso; omega)
theorem w_X6_isNoDateF {l : Launch} {G : kG} {h : kAH} {o g r : Nat} {c : Int} {f : Nat → Int} (hl : l.stackTraces = false) (hM : kMd G h o g r c (-1) (-1) f) (hW : kWf f) {n dd : Int} (rn : -2147483648 ≤ n ∧ n < 2147483648) (rdd : -2147483648 ≤ dd ∧ dd < 2147483648) (hc : ¬ atF f n < 0 ∧ (0 ≤ dd ∧ dd < oF f (atF f n) 3)) : kC l G m_X6_isNoDate 4 0 0 [.ref o, .int (iI n), .int (iI dd)] h (kMq G o g r (some (.int (iI 0))) 0 (-1) (-1) f h) kNo := by
  have h8 := kWf_cnt hW
  have h9 := kWf_nxt hW
  have hat := atF_r (n := n) h8.1
  refine kC_of hl rfl rfl (Nat.le_of_ble_eq_true rfl) (L := [some (.ref o), some (.int (iI n)), some (.int (iI dd))]) rfl ?_
  refine k_aload_n (pc1 := 1) dX6_isNoDate_0 rfl rfl ?_
  refine k_iload_n (pc1 := 2) dX6_isNoDate_1 rfl rfl ?_
  by_cases hN0 : atF f n < 0
  · skip
    refine k_callVM (c' := 1) (wm' := (-1)) (wd' := (-1)) (f' := f) (v := .int (iI 1)) dX6_isNoDate_2 rfl lk_RX6_99 o_X6_isNone hM (w_X6_isNoneT hl hM hW (by omega) hN0) (as := [.int (iI n)]) rfl rfl rfl (by decide) (by decide) (k8 rfl) (fun h31 hM31 hX31 => ?_)
    have hF31 := kFm_tr (kFm_rf o g r h) hX31
    refine k_if_ne (a := 1) dX6_isNoDate_5 rfl (tgt := 40) rfl (by decide) (fun _ => ?_) (fun c => absurd c (by decide))
    refine k_iconst (pc1 := 41) dX6_isNoDate_40 rfl ?_
    refine k_goto dX6_isNoDate_41 (tgt := 45) rfl ?_
    first | exact k_iret dX6_isNoDate_45 rfl rfl ⟨rfl, hM31, hF31⟩ | exact absurd rfl (by first | omega | assumption) | (exfalso; omega)
  · skip
    refine k_callVM (c' := 0) (wm' := (-1)) (wd' := (-1)) (f' := f) (v := .int (iI 0)) dX6_isNoDate_2 rfl lk_RX6_99 o_X6_isNone hM (w_X6_isNoneF hl hM hW (by omega) hN0) (as := [.int (iI n)]) rfl rfl rfl (by decide) (by decide) (k8 rfl) (fun h32 hM32 hX32 => ?_)
    have hF32 := kFm_tr (kFm_rf o g r h) hX32
    refine k_if_ne (a := 0) dX6_isNoDate_5 rfl (tgt := 40) rfl (by decide) (fun c => absurd c (by decide)) (fun _ => ?_)
    have hmm := kWf_m hW (m := atF f n) (by omega) (by omega)
    refine k_aload_n (pc1 := 9) dX6_isNoDate_8 rfl rfl ?_
    refine k_iload_n (pc1 := 10) dX6_isNoDate_9 rfl rfl ?_
    refine k_iconst (pc1 := 11) dX6_isNoDate_10 rfl ?_
    refine k_aload_n (pc1 := 12) dX6_isNoDate_11 rfl rfl ?_
    refine k_aload_n (pc1 := 13) dX6_isNoDate_12 rfl rfl ?_
    refine k_iload_n (pc1 := 14) dX6_isNoDate_13 rfl rfl ?_
    refine k_callVP dX6_isNoDate_14 rfl lk_RX6_96 o_X6_at (w_X6_at hl hM32 n hW (by omega)) (as := [.int (iI n)]) hM32.1 rfl rfl rfl rfl (by decide) (by decide) (k8 rfl) ?_
    refine k_iconst (pc1 := 18) dX6_isNoDate_17 rfl ?_
    refine k_callVP dX6_isNoDate_18 rfl lk_RX6_37 o_X6_of (w_X6_of hl hM32 (atF f n) 3 (by omega) (by omega)) (as := [.int (iI (atF f n)), .int (iI 3)]) hM32.1 rfl rfl rfl rfl (by decide) (by decide) (k8 rfl) ?_
    refine k_iconst (pc1 := 22) dX6_isNoDate_21 rfl ?_
    refine k_isub (a := (oF f (atF f n) 3)) (b := 1) (pc1 := 23) dX6_isNoDate_22 rfl ?_
    refine k_callSP dX6_isNoDate_23 rfl lk_RX6_26 o_X6_in (w_X6_in hl dd 0 ((oF f (atF f n) 3) - 1) (by omega) (by decide) (by omega)) (as := [.int (iI dd), .int (iI 0), .int (iI ((oF f (atF f n) 3) - 1))]) rfl rfl rfl (by decide) (by decide) (k8 rfl) ?_
    refine k_if_eq (a := kB (0 ≤ dd ∧ dd ≤ ((oF f (atF f n) 3) - 1))) dX6_isNoDate_26 rfl (tgt := 33) rfl (kB_r _) (fun c26 : kB (0 ≤ dd ∧ dd ≤ ((oF f (atF f n) 3) - 1)) = 0 => ?_) (fun c26 : kB (0 ≤ dd ∧ dd ≤ ((oF f (atF f n) 3) - 1)) ≠ 0 => ?_)
    · replace c26 : ¬(0 ≤ dd ∧ dd ≤ ((oF f (atF f n) 3) - 1)) := kB_z.mp c26
      refine k_iconst (pc1 := 34) dX6_isNoDate_33 rfl ?_
      refine k_callVM (c' := 2) (wm' := (-1)) (wd' := (-1)) (f' := f) (v := .int (iI 1)) dX6_isNoDate_34 rfl lk_RX6_34 o_X6_fails hM32 (w_X6_failsT hl hM32 (by decide)) (as := [.int (iI 2)]) rfl rfl rfl (by decide) (by decide) (k8 rfl) (fun h33 hM33 hX33 => ?_)
      have hF33 := kFm_tr hF32 hX33
      refine k_if_eq (a := 1) dX6_isNoDate_37 rfl (tgt := 44) rfl (by decide) (fun c => absurd c (by decide)) (fun _ => ?_)
      refine k_iconst (pc1 := 41) dX6_isNoDate_40 rfl ?_
      refine k_goto dX6_isNoDate_41 (tgt := 45) rfl ?_
      first | exact k_iret dX6_isNoDate_45 rfl rfl ⟨rfl, hM33, hF33⟩ | exact absurd rfl (by first | omega | assumption) | (exfalso; omega)
    · replace c26 : (0 ≤ dd ∧ dd ≤ ((oF f (atF f n) 3) - 1)) := kB_nz.mp c26
      refine k_iconst (pc1 := 30) dX6_isNoDate_29 rfl ?_
      refine k_goto dX6_isNoDate_30 (tgt := 34) rfl ?_
      refine k_callVM (c' := 0) (wm' := (-1)) (wd' := (-1)) (f' := f) (v := .int (iI 0)) dX6_isNoDate_34 rfl lk_RX6_34 o_X6_fails hM32 (w_X6_failsF hl hM32) (as := [.int (iI 0)]) rfl rfl rfl (by decide) (by decide) (k8 rfl) (fun h34 hM34 hX34 => ?_)
      have hF34 := kFm_tr hF32 hX34
      refine k_if_eq (a := 0) dX6_isNoDate_37 rfl (tgt := 44) rfl (by decide) (fun _ => ?_) (fun c => absurd c (by decide))
      refine k_iconst (pc1 := 45) dX6_isNoDate_44 rfl ?_
      first | exact k_iret dX6_isNoDate_45 rfl rfl ⟨rfl, hM34, hF34⟩ | exact absurd rfl (by first | omega | assumption) | (exfalso; omega)
theorem w_X6_hostOf {l : Launch} {G : kG} {h : kAH} {o g r : Nat} {c : Int} {f : Nat → Int} (hl : l.stackTraces = false) (hM : kMd G h o g r c (-1) (-1) f) (hW : kWf f) (n : Int) (rn : -2147483648 ≤ n ∧ n < 2147483648) : kC l G m_X6_hostOf 4 0 0 [.ref o, .int (iI n)] h (kMt G o g r (ThostOf f n) h) kNo := by
  have hwm : -1 ≤ (-1 : Int) ∧ (-1 : Int) < 8 := by decide
  have hwd : -1 ≤ (-1 : Int) ∧ (-1 : Int) < 6 := by decide
  have h8 := kWf_cnt hW
  have h9 := kWf_nxt hW
  have hat := atF_r (n := n) h8.1
  refine kC_of hl rfl rfl (Nat.le_of_ble_eq_true rfl) (L := [some (.ref o), some (.int (iI n))]) rfl ?_
  refine k_aload_n (pc1 := 1) dX6_hostOf_0 rfl rfl ?_
  refine k_iload_n (pc1 := 2) dX6_hostOf_1 rfl rfl ?_
  by_cases hN0 : atF f n < 0
  · skip
    refine k_callVM (c' := 1) (wm' := (-1)) (wd' := (-1)) (f' := f) (v := .int (iI 1)) dX6_hostOf_2 rfl lk_RX6_99 o_X6_isNone hM (w_X6_isNoneT hl hM hW (by omega) hN0) (as := [.int (iI n)]) rfl rfl rfl (by decide) (by decide) (k8 rfl) (fun h35 hM35 hX35 => ?_)
    have hF35 := kFm_tr (kFm_rf o g r h) hX35
    refine k_if_eq (a := 1) dX6_hostOf_5 rfl (tgt := 12) rfl (by decide) (fun c => absurd c (by decide)) (fun _ => ?_)
    refine k_iconst (pc1 := 9) dX6_hostOf_8 rfl ?_
    refine k_goto dX6_hostOf_9 (tgt := 22) rfl ?_
    exact k_iret dX6_hostOf_22 rfl rfl (kMt_mk (c1 := 1) (v1 := 0) (f1 := f) (by first | exact kI_t (by first | omega | assumption) | exact kI_f (by first | omega | assumption)) hM35 hF35)
  · skip
    refine k_callVM (c' := 0) (wm' := (-1)) (wd' := (-1)) (f' := f) (v := .int (iI 0)) dX6_hostOf_2 rfl lk_RX6_99 o_X6_isNone hM (w_X6_isNoneF hl hM hW (by omega) hN0) (as := [.int (iI n)]) rfl rfl rfl (by decide) (by decide) (k8 rfl) (fun h36 hM36 hX36 => ?_)
    have hF36 := kFm_tr (kFm_rf o g r h) hX36
    refine k_if_eq (a := 0) dX6_hostOf_5 rfl (tgt := 12) rfl (by decide) (fun _ => ?_) (fun c => absurd c (by decide))
    refine k_aload_n (pc1 := 13) dX6_hostOf_12 rfl rfl ?_
    refine k_aload_n (pc1 := 14) dX6_hostOf_13 rfl rfl ?_
    refine k_iload_n (pc1 := 15) dX6_hostOf_14 rfl rfl ?_
    refine k_callVP dX6_hostOf_15 rfl lk_RX6_96 o_X6_at (w_X6_at hl hM36 n hW (by omega)) (as := [.int (iI n)]) hM36.1 rfl rfl rfl rfl (by decide) (by decide) (k8 rfl) ?_
    refine k_iconst (pc1 := 19) dX6_hostOf_18 rfl ?_
    refine k_callVP dX6_hostOf_19 rfl lk_RX6_37 o_X6_of (w_X6_of hl hM36 (atF f n) 1 (by omega) (by omega)) (as := [.int (iI (atF f n)), .int (iI 1)]) hM36.1 rfl rfl rfl rfl (by decide) (by decide) (k8 rfl) ?_
    exact k_iret dX6_hostOf_22 rfl rfl (kMt_mk (c1 := 0) (v1 := (oF f (atF f n) 1)) (f1 := f) (by first | exact kI_t (by first | omega | assumption) | exact kI_f (by first | omega | assumption)) hM36 hF36)
theorem w_X6_expected {l : Launch} {G : kG} {h : kAH} {o g r : Nat} {c : Int} {f : Nat → Int} (hl : l.stackTraces = false) (hM : kMd G h o g r c (-1) (-1) f) (hW : kWf f) (n : Int) (rn : -2147483648 ≤ n ∧ n < 2147483648) : kC l G m_X6_expected 4 0 0 [.ref o, .int (iI n)] h (kMt G o g r (Texpected f n) h) kNo := by
  have hwm : -1 ≤ (-1 : Int) ∧ (-1 : Int) < 8 := by decide
  have hwd : -1 ≤ (-1 : Int) ∧ (-1 : Int) < 6 := by decide
  have h8 := kWf_cnt hW
  have h9 := kWf_nxt hW
  have hat := atF_r (n := n) h8.1
  refine kC_of hl rfl rfl (Nat.le_of_ble_eq_true rfl) (L := [some (.ref o), some (.int (iI n))]) rfl ?_
  refine k_aload_n (pc1 := 1) dX6_expected_0 rfl rfl ?_
  refine k_iload_n (pc1 := 2) dX6_expected_1 rfl rfl ?_
  by_cases hN0 : atF f n < 0
  · skip
    refine k_callVM (c' := 1) (wm' := (-1)) (wd' := (-1)) (f' := f) (v := .int (iI 1)) dX6_expected_2 rfl lk_RX6_99 o_X6_isNone hM (w_X6_isNoneT hl hM hW (by omega) hN0) (as := [.int (iI n)]) rfl rfl rfl (by decide) (by decide) (k8 rfl) (fun h37 hM37 hX37 => ?_)
    have hF37 := kFm_tr (kFm_rf o g r h) hX37
    refine k_if_eq (a := 1) dX6_expected_5 rfl (tgt := 12) rfl (by decide) (fun c => absurd c (by decide)) (fun _ => ?_)
    refine k_iconst (pc1 := 9) dX6_expected_8 rfl ?_
    refine k_goto dX6_expected_9 (tgt := 24) rfl ?_
    exact k_iret dX6_expected_24 rfl rfl (kMt_mk (c1 := 1) (v1 := 0) (f1 := f) (by first | exact kI_t (by first | omega | assumption) | exact kI_f (by first | omega | assumption)) hM37 hF37)
  · skip
    refine k_callVM (c' := 0) (wm' := (-1)) (wd' := (-1)) (f' := f) (v := .int (iI 0)) dX6_expected_2 rfl lk_RX6_99 o_X6_isNone hM (w_X6_isNoneF hl hM hW (by omega) hN0) (as := [.int (iI n)]) rfl rfl rfl (by decide) (by decide) (k8 rfl) (fun h38 hM38 hX38 => ?_)
    have hF38 := kFm_tr (kFm_rf o g r h) hX38
    refine k_if_eq (a := 0) dX6_expected_5 rfl (tgt := 12) rfl (by decide) (fun _ => ?_) (fun c => absurd c (by decide))
    refine k_aload_n (pc1 := 13) dX6_expected_12 rfl rfl ?_
    refine k_aload_n (pc1 := 14) dX6_expected_13 rfl rfl ?_
    refine k_iload_n (pc1 := 15) dX6_expected_14 rfl rfl ?_
    refine k_callVP dX6_expected_15 rfl lk_RX6_96 o_X6_at (w_X6_at hl hM38 n hW (by omega)) (as := [.int (iI n)]) hM38.1 rfl rfl rfl rfl (by decide) (by decide) (k8 rfl) ?_
    refine k_callVP dX6_expected_18 rfl lk_RX6_59 o_X6_people (w_X6_people hl hM38 (atF f n) hW (by omega) (by omega)) (as := [.int (iI (atF f n))]) hM38.1 rfl rfl rfl rfl (by decide) (by decide) (k8 rfl) ?_
    refine k_callSP dX6_expected_21 rfl lk_RX6_63 o_X6_many (w_X6_many hl (ppF f (atF f n)) (by first | omega | exact kmk_lt _ _ | assumption)) (as := [.int (iI (((ppF f (atF f n)) : Nat) : Int))]) rfl rfl rfl (by decide) (by decide) (k8 rfl) ?_
    exact k_iret dX6_expected_24 rfl rfl (kMt_mk (c1 := 0) (v1 := (kpo (ppF f (atF f n)) 6)) (f1 := f) (by first | exact kI_t (by first | omega | assumption) | exact kI_f (by first | omega | assumption)) hM38 hF38)
theorem w_X6_dateCount {l : Launch} {G : kG} {h : kAH} {o g r : Nat} {c : Int} {f : Nat → Int} (hl : l.stackTraces = false) (hM : kMd G h o g r c (-1) (-1) f) (hW : kWf f) (n : Int) (rn : -2147483648 ≤ n ∧ n < 2147483648) : kC l G m_X6_dateCount 4 0 0 [.ref o, .int (iI n)] h (kMt G o g r (TdateCount f n) h) kNo := by
  have hwm : -1 ≤ (-1 : Int) ∧ (-1 : Int) < 8 := by decide
  have hwd : -1 ≤ (-1 : Int) ∧ (-1 : Int) < 6 := by decide
  have h8 := kWf_cnt hW
  have h9 := kWf_nxt hW
  have hat := atF_r (n := n) h8.1
  refine kC_of hl rfl rfl (Nat.le_of_ble_eq_true rfl) (L := [some (.ref o), some (.int (iI n))]) rfl ?_
  refine k_aload_n (pc1 := 1) dX6_dateCount_0 rfl rfl ?_
  refine k_iload_n (pc1 := 2) dX6_dateCount_1 rfl rfl ?_
  by_cases hN0 : atF f n < 0
  · skip
    refine k_callVM (c' := 1) (wm' := (-1)) (wd' := (-1)) (f' := f) (v := .int (iI 1)) dX6_dateCount_2 rfl lk_RX6_99 o_X6_isNone hM (w_X6_isNoneT hl hM hW (by omega) hN0) (as := [.int (iI n)]) rfl rfl rfl (by decide) (by decide) (k8 rfl) (fun h39 hM39 hX39 => ?_)
    have hF39 := kFm_tr (kFm_rf o g r h) hX39
    refine k_if_eq (a := 1) dX6_dateCount_5 rfl (tgt := 12) rfl (by decide) (fun c => absurd c (by decide)) (fun _ => ?_)
    refine k_iconst (pc1 := 9) dX6_dateCount_8 rfl ?_
    refine k_goto dX6_dateCount_9 (tgt := 22) rfl ?_
    exact k_iret dX6_dateCount_22 rfl rfl (kMt_mk (c1 := 1) (v1 := 0) (f1 := f) (by first | exact kI_t (by first | omega | assumption) | exact kI_f (by first | omega | assumption)) hM39 hF39)
  · skip
    refine k_callVM (c' := 0) (wm' := (-1)) (wd' := (-1)) (f' := f) (v := .int (iI 0)) dX6_dateCount_2 rfl lk_RX6_99 o_X6_isNone hM (w_X6_isNoneF hl hM hW (by omega) hN0) (as := [.int (iI n)]) rfl rfl rfl (by decide) (by decide) (k8 rfl) (fun h40 hM40 hX40 => ?_)
    have hF40 := kFm_tr (kFm_rf o g r h) hX40
    refine k_if_eq (a := 0) dX6_dateCount_5 rfl (tgt := 12) rfl (by decide) (fun _ => ?_) (fun c => absurd c (by decide))
    refine k_aload_n (pc1 := 13) dX6_dateCount_12 rfl rfl ?_
    refine k_aload_n (pc1 := 14) dX6_dateCount_13 rfl rfl ?_
    refine k_iload_n (pc1 := 15) dX6_dateCount_14 rfl rfl ?_
    refine k_callVP dX6_dateCount_15 rfl lk_RX6_96 o_X6_at (w_X6_at hl hM40 n hW (by omega)) (as := [.int (iI n)]) hM40.1 rfl rfl rfl rfl (by decide) (by decide) (k8 rfl) ?_
    refine k_iconst (pc1 := 19) dX6_dateCount_18 rfl ?_
    refine k_callVP dX6_dateCount_19 rfl lk_RX6_37 o_X6_of (w_X6_of hl hM40 (atF f n) 3 (by omega) (by omega)) (as := [.int (iI (atF f n)), .int (iI 3)]) hM40.1 rfl rfl rfl rfl (by decide) (by decide) (k8 rfl) ?_
    exact k_iret dX6_dateCount_22 rfl rfl (kMt_mk (c1 := 0) (v1 := (oF f (atF f n) 3)) (f1 := f) (by first | exact kI_t (by first | omega | assumption) | exact kI_f (by first | omega | assumption)) hM40 hF40)
theorem w_X6_dayOf {l : Launch} {G : kG} {h : kAH} {o g r : Nat} {c : Int} {f : Nat → Int} (hl : l.stackTraces = false) (hM : kMd G h o g r c (-1) (-1) f) (hW : kWf f) (n dd : Int) (rn : -2147483648 ≤ n ∧ n < 2147483648) (rdd : -2147483648 ≤ dd ∧ dd < 2147483648) : kC l G m_X6_dayOf 5 0 0 [.ref o, .int (iI n), .int (iI dd)] h (kMt G o g r (TdayOf f n dd) h) kNo := by
  have hwm : -1 ≤ (-1 : Int) ∧ (-1 : Int) < 8 := by decide
  have hwd : -1 ≤ (-1 : Int) ∧ (-1 : Int) < 6 := by decide
  have h8 := kWf_cnt hW
  have h9 := kWf_nxt hW
  have hat := atF_r (n := n) h8.1
  refine kC_of hl rfl rfl (Nat.le_of_ble_eq_true rfl) (L := [some (.ref o), some (.int (iI n)), some (.int (iI dd))]) rfl ?_
  refine k_aload_n (pc1 := 1) dX6_dayOf_0 rfl rfl ?_
  refine k_iload_n (pc1 := 2) dX6_dayOf_1 rfl rfl ?_
  refine k_iload_n (pc1 := 3) dX6_dayOf_2 rfl rfl ?_
  by_cases hN0 : atF f n < 0
  · skip
    refine k_callVM (c' := 1) (wm' := (-1)) (wd' := (-1)) (f' := f) (v := .int (iI 1)) dX6_dayOf_3 rfl lk_RX6_108 o_X6_isNoDate hM (w_X6_isNoDateT hl hM hW (by omega) (by omega) hN0) (as := [.int (iI n), .int (iI dd)]) rfl rfl rfl (by decide) (by decide) (k8 rfl) (fun h41 hM41 hX41 => ?_)
    have hF41 := kFm_tr (kFm_rf o g r h) hX41
    refine k_if_eq (a := 1) dX6_dayOf_6 rfl (tgt := 13) rfl (by decide) (fun c => absurd c (by decide)) (fun _ => ?_)
    refine k_iconst (pc1 := 10) dX6_dayOf_9 rfl ?_
    refine k_goto dX6_dayOf_10 (tgt := 24) rfl ?_
    exact k_iret dX6_dayOf_24 rfl rfl (kMt_mk (c1 := 1) (v1 := 0) (f1 := f) (by first | exact kI_t (by first | omega | assumption) | exact (kI_f (by first | omega | assumption)).trans (kI_t (by first | omega | assumption)) | exact (kI_f (by first | omega | assumption)).trans (kI_f (by first | omega | assumption))) hM41 hF41)
  · skip
    by_cases hN1 : 0 ≤ dd ∧ dd < oF f (atF f n) 3
    · skip
      refine k_callVM (c' := 0) (wm' := (-1)) (wd' := (-1)) (f' := f) (v := .int (iI 0)) dX6_dayOf_3 rfl lk_RX6_108 o_X6_isNoDate hM (w_X6_isNoDateF hl hM hW (by omega) (by omega) ⟨hN0, hN1⟩) (as := [.int (iI n), .int (iI dd)]) rfl rfl rfl (by decide) (by decide) (k8 rfl) (fun h42 hM42 hX42 => ?_)
      have hF42 := kFm_tr (kFm_rf o g r h) hX42
      have hmm := kWf_m hW (m := atF f n) (by omega) (by omega)
      have hdd := kWf_d hW (m := atF f n) (d := dd) (by omega) (by omega) hN1.1 hN1.2
      refine k_if_eq (a := 0) dX6_dayOf_6 rfl (tgt := 13) rfl (by decide) (fun _ => ?_) (fun c => absurd c (by decide))
      refine k_aload_n (pc1 := 14) dX6_dayOf_13 rfl rfl ?_
      refine k_aload_n (pc1 := 15) dX6_dayOf_14 rfl rfl ?_
      refine k_iload_n (pc1 := 16) dX6_dayOf_15 rfl rfl ?_
      refine k_callVP dX6_dayOf_16 rfl lk_RX6_96 o_X6_at (w_X6_at hl hM42 n hW (by omega)) (as := [.int (iI n)]) hM42.1 rfl rfl rfl rfl (by decide) (by decide) (k8 rfl) ?_
      refine k_iload_n (pc1 := 20) dX6_dayOf_19 rfl rfl ?_
      refine k_iconst (pc1 := 21) dX6_dayOf_20 rfl ?_
      refine k_callVP dX6_dayOf_21 rfl lk_RX6_45 o_X6_date (w_X6_date hl hM42 (atF f n) dd 0 (by omega) (by omega)) (as := [.int (iI (atF f n)), .int (iI dd), .int (iI 0)]) hM42.1 rfl rfl rfl rfl (by decide) (by decide) (k8 rfl) ?_
      exact k_iret dX6_dayOf_24 rfl rfl (kMt_mk (c1 := 0) (v1 := (dF f (atF f n) dd 0)) (f1 := f) (by first | exact kI_t (by first | omega | assumption) | exact (kI_f (by first | omega | assumption)).trans (kI_t (by first | omega | assumption)) | exact (kI_f (by first | omega | assumption)).trans (kI_f (by first | omega | assumption))) hM42 hF42)
    · skip
      refine k_callVM (c' := 2) (wm' := (-1)) (wd' := (-1)) (f' := f) (v := .int (iI 1)) dX6_dayOf_3 rfl lk_RX6_108 o_X6_isNoDate hM (w_X6_isNoDateU hl hM hW (by omega) (by omega) ⟨hN0, hN1⟩) (as := [.int (iI n), .int (iI dd)]) rfl rfl rfl (by decide) (by decide) (k8 rfl) (fun h43 hM43 hX43 => ?_)
      have hF43 := kFm_tr (kFm_rf o g r h) hX43
      refine k_if_eq (a := 1) dX6_dayOf_6 rfl (tgt := 13) rfl (by decide) (fun c => absurd c (by decide)) (fun _ => ?_)
      refine k_iconst (pc1 := 10) dX6_dayOf_9 rfl ?_
      refine k_goto dX6_dayOf_10 (tgt := 24) rfl ?_
      exact k_iret dX6_dayOf_24 rfl rfl (kMt_mk (c1 := 2) (v1 := 0) (f1 := f) (by first | exact kI_t (by first | omega | assumption) | exact (kI_f (by first | omega | assumption)).trans (kI_t (by first | omega | assumption)) | exact (kI_f (by first | omega | assumption)).trans (kI_f (by first | omega | assumption))) hM43 hF43)
theorem w_X6_timeOf {l : Launch} {G : kG} {h : kAH} {o g r : Nat} {c : Int} {f : Nat → Int} (hl : l.stackTraces = false) (hM : kMd G h o g r c (-1) (-1) f) (hW : kWf f) (n dd : Int) (rn : -2147483648 ≤ n ∧ n < 2147483648) (rdd : -2147483648 ≤ dd ∧ dd < 2147483648) : kC l G m_X6_timeOf 5 0 0 [.ref o, .int (iI n), .int (iI dd)] h (kMt G o g r (TtimeOf f n dd) h) kNo := by
  have hwm : -1 ≤ (-1 : Int) ∧ (-1 : Int) < 8 := by decide
  have hwd : -1 ≤ (-1 : Int) ∧ (-1 : Int) < 6 := by decide
  have h8 := kWf_cnt hW
  have h9 := kWf_nxt hW
  have hat := atF_r (n := n) h8.1
  refine kC_of hl rfl rfl (Nat.le_of_ble_eq_true rfl) (L := [some (.ref o), some (.int (iI n)), some (.int (iI dd))]) rfl ?_
  refine k_aload_n (pc1 := 1) dX6_timeOf_0 rfl rfl ?_
  refine k_iload_n (pc1 := 2) dX6_timeOf_1 rfl rfl ?_
  refine k_iload_n (pc1 := 3) dX6_timeOf_2 rfl rfl ?_
  by_cases hN0 : atF f n < 0
  · skip
    refine k_callVM (c' := 1) (wm' := (-1)) (wd' := (-1)) (f' := f) (v := .int (iI 1)) dX6_timeOf_3 rfl lk_RX6_108 o_X6_isNoDate hM (w_X6_isNoDateT hl hM hW (by omega) (by omega) hN0) (as := [.int (iI n), .int (iI dd)]) rfl rfl rfl (by decide) (by decide) (k8 rfl) (fun h44 hM44 hX44 => ?_)
    have hF44 := kFm_tr (kFm_rf o g r h) hX44
    refine k_if_eq (a := 1) dX6_timeOf_6 rfl (tgt := 13) rfl (by decide) (fun c => absurd c (by decide)) (fun _ => ?_)
    refine k_iconst (pc1 := 10) dX6_timeOf_9 rfl ?_
    refine k_goto dX6_timeOf_10 (tgt := 24) rfl ?_
    exact k_iret dX6_timeOf_24 rfl rfl (kMt_mk (c1 := 1) (v1 := 0) (f1 := f) (by first | exact kI_t (by first | omega | assumption) | exact (kI_f (by first | omega | assumption)).trans (kI_t (by first | omega | assumption)) | exact (kI_f (by first | omega | assumption)).trans (kI_f (by first | omega | assumption))) hM44 hF44)
  · skip
    by_cases hN1 : 0 ≤ dd ∧ dd < oF f (atF f n) 3
    · skip
      refine k_callVM (c' := 0) (wm' := (-1)) (wd' := (-1)) (f' := f) (v := .int (iI 0)) dX6_timeOf_3 rfl lk_RX6_108 o_X6_isNoDate hM (w_X6_isNoDateF hl hM hW (by omega) (by omega) ⟨hN0, hN1⟩) (as := [.int (iI n), .int (iI dd)]) rfl rfl rfl (by decide) (by decide) (k8 rfl) (fun h45 hM45 hX45 => ?_)
      have hF45 := kFm_tr (kFm_rf o g r h) hX45
      have hmm := kWf_m hW (m := atF f n) (by omega) (by omega)
      have hdd := kWf_d hW (m := atF f n) (d := dd) (by omega) (by omega) hN1.1 hN1.2
      refine k_if_eq (a := 0) dX6_timeOf_6 rfl (tgt := 13) rfl (by decide) (fun _ => ?_) (fun c => absurd c (by decide))
      refine k_aload_n (pc1 := 14) dX6_timeOf_13 rfl rfl ?_
      refine k_aload_n (pc1 := 15) dX6_timeOf_14 rfl rfl ?_
      refine k_iload_n (pc1 := 16) dX6_timeOf_15 rfl rfl ?_
      refine k_callVP dX6_timeOf_16 rfl lk_RX6_96 o_X6_at (w_X6_at hl hM45 n hW (by omega)) (as := [.int (iI n)]) hM45.1 rfl rfl rfl rfl (by decide) (by decide) (k8 rfl) ?_
      refine k_iload_n (pc1 := 20) dX6_timeOf_19 rfl rfl ?_
      refine k_iconst (pc1 := 21) dX6_timeOf_20 rfl ?_
      refine k_callVP dX6_timeOf_21 rfl lk_RX6_45 o_X6_date (w_X6_date hl hM45 (atF f n) dd 1 (by omega) (by omega)) (as := [.int (iI (atF f n)), .int (iI dd), .int (iI 1)]) hM45.1 rfl rfl rfl rfl (by decide) (by decide) (k8 rfl) ?_
      exact k_iret dX6_timeOf_24 rfl rfl (kMt_mk (c1 := 0) (v1 := (dF f (atF f n) dd 1)) (f1 := f) (by first | exact kI_t (by first | omega | assumption) | exact (kI_f (by first | omega | assumption)).trans (kI_t (by first | omega | assumption)) | exact (kI_f (by first | omega | assumption)).trans (kI_f (by first | omega | assumption))) hM45 hF45)
    · skip
      refine k_callVM (c' := 2) (wm' := (-1)) (wd' := (-1)) (f' := f) (v := .int (iI 1)) dX6_timeOf_3 rfl lk_RX6_108 o_X6_isNoDate hM (w_X6_isNoDateU hl hM hW (by omega) (by omega) ⟨hN0, hN1⟩) (as := [.int (iI n), .int (iI dd)]) rfl rfl rfl (by decide) (by decide) (k8 rfl) (fun h46 hM46 hX46 => ?_)
      have hF46 := kFm_tr (kFm_rf o g r h) hX46
      refine k_if_eq (a := 1) dX6_timeOf_6 rfl (tgt := 13) rfl (by decide) (fun c => absurd c (by decide)) (fun _ => ?_)
      refine k_iconst (pc1 := 10) dX6_timeOf_9 rfl ?_
      refine k_goto dX6_timeOf_10 (tgt := 24) rfl ?_
      exact k_iret dX6_timeOf_24 rfl rfl (kMt_mk (c1 := 2) (v1 := 0) (f1 := f) (by first | exact kI_t (by first | omega | assumption) | exact (kI_f (by first | omega | assumption)).trans (kI_t (by first | omega | assumption)) | exact (kI_f (by first | omega | assumption)).trans (kI_f (by first | omega | assumption))) hM46 hF46)
theorem w_X6_isCancelled {l : Launch} {G : kG} {h : kAH} {o g r : Nat} {c : Int} {f : Nat → Int} (hl : l.stackTraces = false) (hM : kMd G h o g r c (-1) (-1) f) (hW : kWf f) (n dd : Int) (rn : -2147483648 ≤ n ∧ n < 2147483648) (rdd : -2147483648 ≤ dd ∧ dd < 2147483648) : kC l G m_X6_isCancelled 5 0 0 [.ref o, .int (iI n), .int (iI dd)] h (kMt G o g r (TisCancelled f n dd) h) kNo := by
  have hwm : -1 ≤ (-1 : Int) ∧ (-1 : Int) < 8 := by decide
  have hwd : -1 ≤ (-1 : Int) ∧ (-1 : Int) < 6 := by decide
  have h8 := kWf_cnt hW
  have h9 := kWf_nxt hW
  have hat := atF_r (n := n) h8.1
  refine kC_of hl rfl rfl (Nat.le_of_ble_eq_true rfl) (L := [some (.ref o), some (.int (iI n)), some (.int (iI dd))]) rfl ?_
  refine k_aload_n (pc1 := 1) dX6_isCancelled_0 rfl rfl ?_
  refine k_iload_n (pc1 := 2) dX6_isCancelled_1 rfl rfl ?_
  refine k_iload_n (pc1 := 3) dX6_isCancelled_2 rfl rfl ?_
  by_cases hN0 : atF f n < 0
  · skip
    refine k_callVM (c' := 1) (wm' := (-1)) (wd' := (-1)) (f' := f) (v := .int (iI 1)) dX6_isCancelled_3 rfl lk_RX6_108 o_X6_isNoDate hM (w_X6_isNoDateT hl hM hW (by omega) (by omega) hN0) (as := [.int (iI n), .int (iI dd)]) rfl rfl rfl (by decide) (by decide) (k8 rfl) (fun h47 hM47 hX47 => ?_)
    have hF47 := kFm_tr (kFm_rf o g r h) hX47
    refine k_if_ne (a := 1) dX6_isCancelled_6 rfl (tgt := 26) rfl (by decide) (fun _ => ?_) (fun c => absurd c (by decide))
    refine k_iconst (pc1 := 27) dX6_isCancelled_26 rfl ?_
    exact k_iret dX6_isCancelled_27 rfl rfl (kMt_mk (c1 := 1) (v1 := 0) (f1 := f) (by unfold TisCancelled; first | exact kI_t (by omega) | exact (kI_f (by omega)).trans (kI_f (by omega)) | (rw [kI_f (by omega), kI_t (by omega)]; first | rw [kB_t (by assumption)] | rw [kB_f (fun z => z (by assumption))])) hM47 hF47)
  · skip
    by_cases hN1 : 0 ≤ dd ∧ dd < oF f (atF f n) 3
    · skip
      refine k_callVM (c' := 0) (wm' := (-1)) (wd' := (-1)) (f' := f) (v := .int (iI 0)) dX6_isCancelled_3 rfl lk_RX6_108 o_X6_isNoDate hM (w_X6_isNoDateF hl hM hW (by omega) (by omega) ⟨hN0, hN1⟩) (as := [.int (iI n), .int (iI dd)]) rfl rfl rfl (by decide) (by decide) (k8 rfl) (fun h48 hM48 hX48 => ?_)
      have hF48 := kFm_tr (kFm_rf o g r h) hX48
      have hmm := kWf_m hW (m := atF f n) (by omega) (by omega)
      have hdd := kWf_d hW (m := atF f n) (d := dd) (by omega) (by omega) hN1.1 hN1.2
      refine k_if_ne (a := 0) dX6_isCancelled_6 rfl (tgt := 26) rfl (by decide) (fun c => absurd c (by decide)) (fun _ => ?_)
      refine k_aload_n (pc1 := 10) dX6_isCancelled_9 rfl rfl ?_
      refine k_aload_n (pc1 := 11) dX6_isCancelled_10 rfl rfl ?_
      refine k_iload_n (pc1 := 12) dX6_isCancelled_11 rfl rfl ?_
      refine k_callVP dX6_isCancelled_12 rfl lk_RX6_96 o_X6_at (w_X6_at hl hM48 n hW (by omega)) (as := [.int (iI n)]) hM48.1 rfl rfl rfl rfl (by decide) (by decide) (k8 rfl) ?_
      refine k_iload_n (pc1 := 16) dX6_isCancelled_15 rfl rfl ?_
      refine k_callVP dX6_isCancelled_16 rfl lk_RX6_49 o_X6_isOn (w_X6_isOn hl hM48 (atF f n) dd hW ⟨by omega, by omega, by omega, by omega⟩) (as := [.int (iI (atF f n)), .int (iI dd)]) hM48.1 rfl rfl rfl rfl (by decide) (by decide) (k8 rfl) ?_
      refine k_if_ne (a := kB (onF f (atF f n) dd)) dX6_isCancelled_19 rfl (tgt := 26) rfl (kB_r _) (fun c19 : kB (onF f (atF f n) dd) ≠ 0 => ?_) (fun c19 : kB (onF f (atF f n) dd) = 0 => ?_)
      · replace c19 : (onF f (atF f n) dd) := kB_nz.mp c19
        refine k_iconst (pc1 := 27) dX6_isCancelled_26 rfl ?_
        exact k_iret dX6_isCancelled_27 rfl rfl (kMt_mk (c1 := 0) (v1 := 0) (f1 := f) (by unfold TisCancelled; first | exact kI_t (by omega) | exact (kI_f (by omega)).trans (kI_f (by omega)) | (rw [kI_f (by omega), kI_t (by omega)]; first | rw [kB_t (by assumption)] | rw [kB_f (fun z => z (by assumption))])) hM48 hF48)
      · replace c19 : ¬(onF f (atF f n) dd) := kB_z.mp c19
        refine k_iconst (pc1 := 23) dX6_isCancelled_22 rfl ?_
        refine k_goto dX6_isCancelled_23 (tgt := 27) rfl ?_
        exact k_iret dX6_isCancelled_27 rfl rfl (kMt_mk (c1 := 0) (v1 := 1) (f1 := f) (by unfold TisCancelled; first | exact kI_t (by omega) | exact (kI_f (by omega)).trans (kI_f (by omega)) | (rw [kI_f (by omega), kI_t (by omega)]; first | rw [kB_t (by assumption)] | rw [kB_f (fun z => z (by assumption))])) hM48 hF48)
    · skip
      refine k_callVM (c' := 2) (wm' := (-1)) (wd' := (-1)) (f' := f) (v := .int (iI 1)) dX6_isCancelled_3 rfl lk_RX6_108 o_X6_isNoDate hM (w_X6_isNoDateU hl hM hW (by omega) (by omega) ⟨hN0, hN1⟩) (as := [.int (iI n), .int (iI dd)]) rfl rfl rfl (by decide) (by decide) (k8 rfl) (fun h49 hM49 hX49 => ?_)
      have hF49 := kFm_tr (kFm_rf o g r h) hX49
      refine k_if_ne (a := 1) dX6_isCancelled_6 rfl (tgt := 26) rfl (by decide) (fun _ => ?_) (fun c => absurd c (by decide))
      refine k_iconst (pc1 := 27) dX6_isCancelled_26 rfl ?_
      exact k_iret dX6_isCancelled_27 rfl rfl (kMt_mk (c1 := 2) (v1 := 0) (f1 := f) (by unfold TisCancelled; first | exact kI_t (by omega) | exact (kI_f (by omega)).trans (kI_f (by omega)) | (rw [kI_f (by omega), kI_t (by omega)]; first | rw [kB_t (by assumption)] | rw [kB_f (fun z => z (by assumption))])) hM49 hF49)
theorem w_X6_roomOf {l : Launch} {G : kG} {h : kAH} {o g r : Nat} {c : Int} {f : Nat → Int} (hl : l.stackTraces = false) (hM : kMd G h o g r c (-1) (-1) f) (hW : kWf f) (n dd : Int) (rn : -2147483648 ≤ n ∧ n < 2147483648) (rdd : -2147483648 ≤ dd ∧ dd < 2147483648) : kC l G m_X6_roomOf 5 0 0 [.ref o, .int (iI n), .int (iI dd)] h (kMt G o g r (TroomOf f n dd) h) kNo := by
  have hwm : -1 ≤ (-1 : Int) ∧ (-1 : Int) < 8 := by decide
  have hwd : -1 ≤ (-1 : Int) ∧ (-1 : Int) < 6 := by decide
  have h8 := kWf_cnt hW
  have h9 := kWf_nxt hW
  have hat := atF_r (n := n) h8.1
  refine kC_of hl rfl rfl (Nat.le_of_ble_eq_true rfl) (L := [some (.ref o), some (.int (iI n)), some (.int (iI dd))]) rfl ?_
  refine k_aload_n (pc1 := 1) dX6_roomOf_0 rfl rfl ?_
  refine k_iload_n (pc1 := 2) dX6_roomOf_1 rfl rfl ?_
  refine k_iload_n (pc1 := 3) dX6_roomOf_2 rfl rfl ?_
  by_cases hN0 : atF f n < 0
  · skip
    refine k_callVM (c' := 1) (wm' := (-1)) (wd' := (-1)) (f' := f) (v := .int (iI 1)) dX6_roomOf_3 rfl lk_RX6_108 o_X6_isNoDate hM (w_X6_isNoDateT hl hM hW (by omega) (by omega) hN0) (as := [.int (iI n), .int (iI dd)]) rfl rfl rfl (by decide) (by decide) (k8 rfl) (fun h50 hM50 hX50 => ?_)
    have hF50 := kFm_tr (kFm_rf o g r h) hX50
    refine k_if_ne (a := 1) dX6_roomOf_6 rfl (tgt := 34) rfl (by decide) (fun _ => ?_) (fun c => absurd c (by decide))
    refine k_iconst (pc1 := 35) dX6_roomOf_34 rfl ?_
    refine k_goto dX6_roomOf_35 (tgt := 49) rfl ?_
    exact k_iret dX6_roomOf_49 rfl rfl (kMt_mk (c1 := 1) (v1 := 0) (f1 := f) (by unfold TroomOf; first | exact kI_t (by omega) | exact (kI_f (by omega)).trans (kI_f (by omega)) | (rw [kI_f (by omega), kI_t (by omega)]; first | rw [kI_t (by assumption)] | rw [kI_f (by assumption)])) hM50 hF50)
  · skip
    by_cases hN1 : 0 ≤ dd ∧ dd < oF f (atF f n) 3
    · skip
      refine k_callVM (c' := 0) (wm' := (-1)) (wd' := (-1)) (f' := f) (v := .int (iI 0)) dX6_roomOf_3 rfl lk_RX6_108 o_X6_isNoDate hM (w_X6_isNoDateF hl hM hW (by omega) (by omega) ⟨hN0, hN1⟩) (as := [.int (iI n), .int (iI dd)]) rfl rfl rfl (by decide) (by decide) (k8 rfl) (fun h51 hM51 hX51 => ?_)
      have hF51 := kFm_tr (kFm_rf o g r h) hX51
      have hmm := kWf_m hW (m := atF f n) (by omega) (by omega)
      have hdd := kWf_d hW (m := atF f n) (d := dd) (by omega) (by omega) hN1.1 hN1.2
      refine k_if_ne (a := 0) dX6_roomOf_6 rfl (tgt := 34) rfl (by decide) (fun c => absurd c (by decide)) (fun _ => ?_)
      refine k_aload_n (pc1 := 10) dX6_roomOf_9 rfl rfl ?_
      refine k_aload_n (pc1 := 11) dX6_roomOf_10 rfl rfl ?_
      refine k_aload_n (pc1 := 12) dX6_roomOf_11 rfl rfl ?_
      refine k_iload_n (pc1 := 13) dX6_roomOf_12 rfl rfl ?_
      refine k_callVP dX6_roomOf_13 rfl lk_RX6_96 o_X6_at (w_X6_at hl hM51 n hW (by omega)) (as := [.int (iI n)]) hM51.1 rfl rfl rfl rfl (by decide) (by decide) (k8 rfl) ?_
      refine k_iload_n (pc1 := 17) dX6_roomOf_16 rfl rfl ?_
      refine k_callVP dX6_roomOf_17 rfl lk_RX6_49 o_X6_isOn (w_X6_isOn hl hM51 (atF f n) dd hW ⟨by omega, by omega, by omega, by omega⟩) (as := [.int (iI (atF f n)), .int (iI dd)]) hM51.1 rfl rfl rfl rfl (by decide) (by decide) (k8 rfl) ?_
      refine k_if_eq (a := kB (onF f (atF f n) dd)) dX6_roomOf_20 rfl (tgt := 27) rfl (kB_r _) (fun c20 : kB (onF f (atF f n) dd) = 0 => ?_) (fun c20 : kB (onF f (atF f n) dd) ≠ 0 => ?_)
      · replace c20 : ¬(onF f (atF f n) dd) := kB_z.mp c20
        refine k_iconst (pc1 := 28) dX6_roomOf_27 rfl ?_
        refine k_callVM (c' := 3) (wm' := (-1)) (wd' := (-1)) (f' := f) (v := .int (iI 1)) dX6_roomOf_28 rfl lk_RX6_34 o_X6_fails hM51 (w_X6_failsT hl hM51 (by decide)) (as := [.int (iI 3)]) rfl rfl rfl (by decide) (by decide) (k8 rfl) (fun h52 hM52 hX52 => ?_)
        have hF52 := kFm_tr hF51 hX52
        refine k_if_eq (a := 1) dX6_roomOf_31 rfl (tgt := 38) rfl (by decide) (fun c => absurd c (by decide)) (fun _ => ?_)
        refine k_iconst (pc1 := 35) dX6_roomOf_34 rfl ?_
        refine k_goto dX6_roomOf_35 (tgt := 49) rfl ?_
        exact k_iret dX6_roomOf_49 rfl rfl (kMt_mk (c1 := 3) (v1 := 0) (f1 := f) (by unfold TroomOf; first | exact kI_t (by omega) | exact (kI_f (by omega)).trans (kI_f (by omega)) | (rw [kI_f (by omega), kI_t (by omega)]; first | rw [kI_t (by assumption)] | rw [kI_f (by assumption)])) hM52 hF52)
      · replace c20 : (onF f (atF f n) dd) := kB_nz.mp c20
        refine k_iconst (pc1 := 24) dX6_roomOf_23 rfl ?_
        refine k_goto dX6_roomOf_24 (tgt := 28) rfl ?_
        refine k_callVM (c' := 0) (wm' := (-1)) (wd' := (-1)) (f' := f) (v := .int (iI 0)) dX6_roomOf_28 rfl lk_RX6_34 o_X6_fails hM51 (w_X6_failsF hl hM51) (as := [.int (iI 0)]) rfl rfl rfl (by decide) (by decide) (k8 rfl) (fun h53 hM53 hX53 => ?_)
        have hF53 := kFm_tr hF51 hX53
        refine k_if_eq (a := 0) dX6_roomOf_31 rfl (tgt := 38) rfl (by decide) (fun _ => ?_) (fun c => absurd c (by decide))
        refine k_aload_n (pc1 := 39) dX6_roomOf_38 rfl rfl ?_
        refine k_aload_n (pc1 := 40) dX6_roomOf_39 rfl rfl ?_
        refine k_iload_n (pc1 := 41) dX6_roomOf_40 rfl rfl ?_
        refine k_callVP dX6_roomOf_41 rfl lk_RX6_96 o_X6_at (w_X6_at hl hM53 n hW (by omega)) (as := [.int (iI n)]) hM53.1 rfl rfl rfl rfl (by decide) (by decide) (k8 rfl) ?_
        refine k_iload_n (pc1 := 45) dX6_roomOf_44 rfl rfl ?_
        refine k_iconst (pc1 := 46) dX6_roomOf_45 rfl ?_
        refine k_callVP dX6_roomOf_46 rfl lk_RX6_45 o_X6_date (w_X6_date hl hM53 (atF f n) dd 3 (by omega) (by omega)) (as := [.int (iI (atF f n)), .int (iI dd), .int (iI 3)]) hM53.1 rfl rfl rfl rfl (by decide) (by decide) (k8 rfl) ?_
        exact k_iret dX6_roomOf_49 rfl rfl (kMt_mk (c1 := 0) (v1 := (dF f (atF f n) dd 3)) (f1 := f) (by unfold TroomOf; first | exact kI_t (by omega) | exact (kI_f (by omega)).trans (kI_f (by omega)) | (rw [kI_f (by omega), kI_t (by omega)]; first | rw [kI_t (by assumption)] | rw [kI_f (by assumption)])) hM53 hF53)
    · skip
      refine k_callVM (c' := 2) (wm' := (-1)) (wd' := (-1)) (f' := f) (v := .int (iI 1)) dX6_roomOf_3 rfl lk_RX6_108 o_X6_isNoDate hM (w_X6_isNoDateU hl hM hW (by omega) (by omega) ⟨hN0, hN1⟩) (as := [.int (iI n), .int (iI dd)]) rfl rfl rfl (by decide) (by decide) (k8 rfl) (fun h54 hM54 hX54 => ?_)
      have hF54 := kFm_tr (kFm_rf o g r h) hX54
      refine k_if_ne (a := 1) dX6_roomOf_6 rfl (tgt := 34) rfl (by decide) (fun _ => ?_) (fun c => absurd c (by decide))
      refine k_iconst (pc1 := 35) dX6_roomOf_34 rfl ?_
      refine k_goto dX6_roomOf_35 (tgt := 49) rfl ?_
      exact k_iret dX6_roomOf_49 rfl rfl (kMt_mk (c1 := 2) (v1 := 0) (f1 := f) (by unfold TroomOf; first | exact kI_t (by omega) | exact (kI_f (by omega)).trans (kI_f (by omega)) | (rw [kI_f (by omega), kI_t (by omega)]; first | rw [kI_t (by assumption)] | rw [kI_f (by assumption)])) hM54 hF54)
theorem w_X6_refusalReason {l : Launch} {G : kG} {h : kAH} {o g r : Nat} {c : Int} {f : Nat → Int} (hl : l.stackTraces = false) (hM : kMd G h o g r c (-1) (-1) f) (hW : kWf f)  : kC l G m_X6_refusalReason 2 0 0 [.ref o] h (kMt G o g r (TrefusalReason f) h) kNo := by
  have hwm : -1 ≤ (-1 : Int) ∧ (-1 : Int) < 8 := by decide
  have hwd : -1 ≤ (-1 : Int) ∧ (-1 : Int) < 6 := by decide
  have hrs := kWf_rsn hW
  have hdt := kWf_dtl hW
  refine kC_of hl rfl rfl (Nat.le_of_ble_eq_true rfl) (L := [some (.ref o)]) rfl ?_
  refine k_aload_n (pc1 := 1) dX6_refusalReason_0 rfl rfl ?_
  refine k_aload_n (pc1 := 2) dX6_refusalReason_1 rfl rfl ?_
  refine k_get (pc1 := 5) dX6_refusalReason_2 rfl fd_RX6_7 hM.1 (v := .ref g) rfl ?_
  refine k_iconst (pc1 := 6) dX6_refusalReason_5 rfl ?_
  refine k_iald (i := 3) (f := f) (pc1 := 7) dX6_refusalReason_6 rfl hM.2.1 (N := 380) (by omega) (by omega) (by decide) (k_val (v' := .int (iI (f 3))) rfl ?_)
  refine k_if_ne (a := (f 3)) dX6_refusalReason_7 rfl (tgt := 14) rfl (by omega) (fun c7 : (f 3) ≠ 0 => ?_) (fun c7 : (f 3) = 0 => ?_)
  · skip
    refine k_iconst (pc1 := 15) dX6_refusalReason_14 rfl ?_
    refine k_callVM (c' := 0) (wm' := (-1)) (wd' := (-1)) (f' := f) (v := .int (iI 0)) dX6_refusalReason_15 rfl lk_RX6_34 o_X6_fails hM (w_X6_failsF hl hM) (as := [.int (iI 0)]) rfl rfl rfl (by decide) (by decide) (k8 rfl) (fun h55 hM55 hX55 => ?_)
    have hF55 := kFm_tr (kFm_rf o g r h) hX55
    refine k_if_eq (a := 0) dX6_refusalReason_18 rfl (tgt := 25) rfl (by decide) (fun _ => ?_) (fun c => absurd c (by decide))
    refine k_aload_n (pc1 := 26) dX6_refusalReason_25 rfl rfl ?_
    refine k_get (pc1 := 29) dX6_refusalReason_26 rfl fd_RX6_7 hM55.1 (v := .ref g) rfl ?_
    refine k_iconst (pc1 := 30) dX6_refusalReason_29 rfl ?_
    refine k_iald (i := 3) (f := f) (pc1 := 31) dX6_refusalReason_30 rfl hM55.2.1 (N := 380) (by omega) (by omega) (by decide) (k_val (v' := .int (iI (f 3))) rfl ?_)
    exact k_iret dX6_refusalReason_31 rfl rfl (kMt_mk (c1 := 0) (v1 := (f 3)) (f1 := f) (by first | exact kI_t (by first | omega | assumption) | exact kI_f (by first | omega | assumption)) hM55 hF55)
  · skip
    refine k_iconst (pc1 := 11) dX6_refusalReason_10 rfl ?_
    refine k_goto dX6_refusalReason_11 (tgt := 15) rfl ?_
    refine k_callVM (c' := 1) (wm' := (-1)) (wd' := (-1)) (f' := f) (v := .int (iI 1)) dX6_refusalReason_15 rfl lk_RX6_34 o_X6_fails hM (w_X6_failsT hl hM (by decide)) (as := [.int (iI 1)]) rfl rfl rfl (by decide) (by decide) (k8 rfl) (fun h56 hM56 hX56 => ?_)
    have hF56 := kFm_tr (kFm_rf o g r h) hX56
    refine k_if_eq (a := 1) dX6_refusalReason_18 rfl (tgt := 25) rfl (by decide) (fun c => absurd c (by decide)) (fun _ => ?_)
    refine k_iconst (pc1 := 22) dX6_refusalReason_21 rfl ?_
    refine k_goto dX6_refusalReason_22 (tgt := 31) rfl ?_
    exact k_iret dX6_refusalReason_31 rfl rfl (kMt_mk (c1 := 1) (v1 := 0) (f1 := f) (by first | exact kI_t (by first | omega | assumption) | exact kI_f (by first | omega | assumption)) hM56 hF56)
theorem w_X6_refusalDetail {l : Launch} {G : kG} {h : kAH} {o g r : Nat} {c : Int} {f : Nat → Int} (hl : l.stackTraces = false) (hM : kMd G h o g r c (-1) (-1) f) (hW : kWf f)  : kC l G m_X6_refusalDetail 2 0 0 [.ref o] h (kMt G o g r (TrefusalDetail f) h) kNo := by
  have hwm : -1 ≤ (-1 : Int) ∧ (-1 : Int) < 8 := by decide
  have hwd : -1 ≤ (-1 : Int) ∧ (-1 : Int) < 6 := by decide
  have hrs := kWf_rsn hW
  have hdt := kWf_dtl hW
  refine kC_of hl rfl rfl (Nat.le_of_ble_eq_true rfl) (L := [some (.ref o)]) rfl ?_
  refine k_aload_n (pc1 := 1) dX6_refusalDetail_0 rfl rfl ?_
  refine k_aload_n (pc1 := 2) dX6_refusalDetail_1 rfl rfl ?_
  refine k_get (pc1 := 5) dX6_refusalDetail_2 rfl fd_RX6_7 hM.1 (v := .ref g) rfl ?_
  refine k_iconst (pc1 := 6) dX6_refusalDetail_5 rfl ?_
  refine k_iald (i := 3) (f := f) (pc1 := 7) dX6_refusalDetail_6 rfl hM.2.1 (N := 380) (by omega) (by omega) (by decide) (k_val (v' := .int (iI (f 3))) rfl ?_)
  refine k_if_ne (a := (f 3)) dX6_refusalDetail_7 rfl (tgt := 14) rfl (by omega) (fun c7 : (f 3) ≠ 0 => ?_) (fun c7 : (f 3) = 0 => ?_)
  · skip
    refine k_iconst (pc1 := 15) dX6_refusalDetail_14 rfl ?_
    refine k_callVM (c' := 0) (wm' := (-1)) (wd' := (-1)) (f' := f) (v := .int (iI 0)) dX6_refusalDetail_15 rfl lk_RX6_34 o_X6_fails hM (w_X6_failsF hl hM) (as := [.int (iI 0)]) rfl rfl rfl (by decide) (by decide) (k8 rfl) (fun h57 hM57 hX57 => ?_)
    have hF57 := kFm_tr (kFm_rf o g r h) hX57
    refine k_if_eq (a := 0) dX6_refusalDetail_18 rfl (tgt := 25) rfl (by decide) (fun _ => ?_) (fun c => absurd c (by decide))
    refine k_aload_n (pc1 := 26) dX6_refusalDetail_25 rfl rfl ?_
    refine k_get (pc1 := 29) dX6_refusalDetail_26 rfl fd_RX6_7 hM57.1 (v := .ref g) rfl ?_
    refine k_iconst (pc1 := 30) dX6_refusalDetail_29 rfl ?_
    refine k_iald (i := 4) (f := f) (pc1 := 31) dX6_refusalDetail_30 rfl hM57.2.1 (N := 380) (by omega) (by omega) (by decide) (k_val (v' := .int (iI (f 4))) rfl ?_)
    exact k_iret dX6_refusalDetail_31 rfl rfl (kMt_mk (c1 := 0) (v1 := (f 4)) (f1 := f) (by first | exact kI_t (by first | omega | assumption) | exact kI_f (by first | omega | assumption)) hM57 hF57)
  · skip
    refine k_iconst (pc1 := 11) dX6_refusalDetail_10 rfl ?_
    refine k_goto dX6_refusalDetail_11 (tgt := 15) rfl ?_
    refine k_callVM (c' := 1) (wm' := (-1)) (wd' := (-1)) (f' := f) (v := .int (iI 1)) dX6_refusalDetail_15 rfl lk_RX6_34 o_X6_fails hM (w_X6_failsT hl hM (by decide)) (as := [.int (iI 1)]) rfl rfl rfl (by decide) (by decide) (k8 rfl) (fun h58 hM58 hX58 => ?_)
    have hF58 := kFm_tr (kFm_rf o g r h) hX58
    refine k_if_eq (a := 1) dX6_refusalDetail_18 rfl (tgt := 25) rfl (by decide) (fun c => absurd c (by decide)) (fun _ => ?_)
    refine k_iconst (pc1 := 22) dX6_refusalDetail_21 rfl ?_
    refine k_goto dX6_refusalDetail_22 (tgt := 31) rfl ?_
    exact k_iret dX6_refusalDetail_31 rfl rfl (kMt_mk (c1 := 1) (v1 := 0) (f1 := f) (by first | exact kI_t (by first | omega | assumption) | exact kI_f (by first | omega | assumption)) hM58 hF58)
