/-! ===== the reference: its private methods, walked ===== -/
theorem w_X6_in {l : Launch} {G : kG} {h : kAH} (hl : l.stackTraces = false) (a b e : Int) (ra : -2147483648 ≤ a ∧ a < 2147483648) (rb : -2147483648 ≤ b ∧ b < 2147483648) (re : -2147483648 ≤ e ∧ e < 2147483648) : kP l G m_X6_in 1 [.int (iI a), .int (iI b), .int (iI e)] h (.int (iI (kB (b ≤ a ∧ a ≤ e)))) := by
  refine kC_of hl rfl rfl (Nat.le_of_ble_eq_true rfl) (L := [some (.int (iI a)), some (.int (iI b)), some (.int (iI e))]) rfl ?_
  refine k_iload_n (pc1 := 1) dX6_in_0 rfl rfl ?_
  refine k_iload_n (pc1 := 2) dX6_in_1 rfl rfl ?_
  refine k_icmp_lt (a := a) (b := b) dX6_in_2 rfl (tgt := 14) rfl (by omega) (by omega) (fun c2 : a < b => ?_) (fun c2 : b ≤ a => ?_)
  · skip
    refine k_iconst (pc1 := 15) dX6_in_14 rfl ?_
    exact k_iret dX6_in_15 rfl rfl (kret (kB_f (by omega)).symm _)
  · skip
    refine k_iload_n (pc1 := 6) dX6_in_5 rfl rfl ?_
    refine k_iload_n (pc1 := 7) dX6_in_6 rfl rfl ?_
    refine k_icmp_gt (a := a) (b := e) dX6_in_7 rfl (tgt := 14) rfl (by omega) (by omega) (fun c7 : e < a => ?_) (fun c7 : a ≤ e => ?_)
    · skip
      refine k_iconst (pc1 := 15) dX6_in_14 rfl ?_
      exact k_iret dX6_in_15 rfl rfl (kret (kB_f (by omega)).symm _)
    · skip
      refine k_iconst (pc1 := 11) dX6_in_10 rfl ?_
      refine k_goto dX6_in_11 (tgt := 15) rfl ?_
      exact k_iret dX6_in_15 rfl rfl (kret (kB_t (by omega)).symm _)
theorem w_X6_isRoom {l : Launch} {G : kG} {h : kAH} (hl : l.stackTraces = false) (a : Int) (ra : -2147483648 ≤ a ∧ a < 2147483648) : kP l G m_X6_isRoom 2 [.int (iI a)] h (.int (iI (kB (0 ≤ a ∧ a ≤ 3)))) := by
  refine kC_of hl rfl rfl (Nat.le_of_ble_eq_true rfl) (L := [some (.int (iI a))]) rfl ?_
  refine k_iload_n (pc1 := 1) dX6_isRoom_0 rfl rfl ?_
  refine k_iconst (pc1 := 2) dX6_isRoom_1 rfl ?_
  refine k_iconst (pc1 := 3) dX6_isRoom_2 rfl ?_
  refine k_callSP dX6_isRoom_3 rfl lk_RX6_26 o_X6_in (w_X6_in hl a 0 3 (by omega) (by decide) (by decide)) (as := [.int (iI a), .int (iI 0), .int (iI 3)]) rfl rfl rfl (by decide) (by decide) (k8 rfl) ?_
  exact k_iret dX6_isRoom_6 rfl (kn_b _) (kret rfl _)
theorem w_X6_isPerson {l : Launch} {G : kG} {h : kAH} (hl : l.stackTraces = false) (a : Int) (ra : -2147483648 ≤ a ∧ a < 2147483648) : kP l G m_X6_isPerson 2 [.int (iI a)] h (.int (iI (kB (0 ≤ a ∧ a ≤ 5)))) := by
  refine kC_of hl rfl rfl (Nat.le_of_ble_eq_true rfl) (L := [some (.int (iI a))]) rfl ?_
  refine k_iload_n (pc1 := 1) dX6_isPerson_0 rfl rfl ?_
  refine k_iconst (pc1 := 2) dX6_isPerson_1 rfl ?_
  refine k_iconst (pc1 := 3) dX6_isPerson_2 rfl ?_
  refine k_callSP dX6_isPerson_3 rfl lk_RX6_26 o_X6_in (w_X6_in hl a 0 5 (by omega) (by decide) (by decide)) (as := [.int (iI a), .int (iI 0), .int (iI 5)]) rfl rfl rfl (by decide) (by decide) (k8 rfl) ?_
  exact k_iret dX6_isPerson_6 rfl (kn_b _) (kret rfl _)
theorem w_X6_isDay {l : Launch} {G : kG} {h : kAH} (hl : l.stackTraces = false) (a : Int) (ra : -2147483648 ≤ a ∧ a < 2147483648) : kP l G m_X6_isDay 2 [.int (iI a)] h (.int (iI (kB (0 ≤ a ∧ a ≤ 27)))) := by
  refine kC_of hl rfl rfl (Nat.le_of_ble_eq_true rfl) (L := [some (.int (iI a))]) rfl ?_
  refine k_iload_n (pc1 := 1) dX6_isDay_0 rfl rfl ?_
  refine k_iconst (pc1 := 2) dX6_isDay_1 rfl ?_
  refine k_bipush 27 (pc1 := 4) dX6_isDay_2 rfl (by decide) ?_
  refine k_callSP dX6_isDay_4 rfl lk_RX6_26 o_X6_in (w_X6_in hl a 0 27 (by omega) (by decide) (by decide)) (as := [.int (iI a), .int (iI 0), .int (iI 27)]) rfl rfl rfl (by decide) (by decide) (k8 rfl) ?_
  exact k_iret dX6_isDay_7 rfl (kn_b _) (kret rfl _)
theorem w_X6_isTime {l : Launch} {G : kG} {h : kAH} (hl : l.stackTraces = false) (a : Int) (ra : -2147483648 ≤ a ∧ a < 2147483648) : kP l G m_X6_isTime 2 [.int (iI a)] h (.int (iI (kB (0 ≤ a ∧ a ≤ 15)))) := by
  refine kC_of hl rfl rfl (Nat.le_of_ble_eq_true rfl) (L := [some (.int (iI a))]) rfl ?_
  refine k_iload_n (pc1 := 1) dX6_isTime_0 rfl rfl ?_
  refine k_iconst (pc1 := 2) dX6_isTime_1 rfl ?_
  refine k_bipush 15 (pc1 := 4) dX6_isTime_2 rfl (by decide) ?_
  refine k_callSP dX6_isTime_4 rfl lk_RX6_26 o_X6_in (w_X6_in hl a 0 15 (by omega) (by decide) (by decide)) (as := [.int (iI a), .int (iI 0), .int (iI 15)]) rfl rfl rfl (by decide) (by decide) (k8 rfl) ?_
  exact k_iret dX6_isTime_7 rfl (kn_b _) (kret rfl _)
theorem w_X6_of {l : Launch} {G : kG} {h : kAH} {o g r : Nat} {c wm wd : Int} {f : Nat → Int} (hl : l.stackTraces = false) (hM : kMd G h o g r c wm wd f) (m w : Int) (h0 : 0 ≤ 20 + 40 * m + w) (h1 : 20 + 40 * m + w < 380) : kP l G m_X6_of 1 [.ref o, .int (iI m), .int (iI w)] h (.int (iI (oF f m w))) := by
  refine kC_of hl rfl rfl (Nat.le_of_ble_eq_true rfl) (L := [some (.ref o), some (.int (iI m)), some (.int (iI w))]) rfl ?_
  refine k_aload_n (pc1 := 1) dX6_of_0 rfl rfl ?_
  refine k_get (pc1 := 4) dX6_of_1 rfl fd_RX6_7 hM.1 (v := .ref g) rfl ?_
  refine k_bipush 20 (pc1 := 6) dX6_of_4 rfl (by decide) ?_
  refine k_bipush 40 (pc1 := 8) dX6_of_6 rfl (by decide) ?_
  refine k_iload_n (pc1 := 9) dX6_of_8 rfl rfl ?_
  refine k_imul (a := 40) (b := m) (pc1 := 10) dX6_of_9 rfl ?_
  refine k_iadd (a := 20) (b := (40 * m)) (pc1 := 11) dX6_of_10 rfl ?_
  refine k_iload_n (pc1 := 12) dX6_of_11 rfl rfl ?_
  refine k_iadd (a := (20 + (40 * m))) (b := w) (pc1 := 13) dX6_of_12 rfl ?_
  refine k_iald (i := ((20 + (40 * m)) + w)) (f := f) (pc1 := 14) dX6_of_13 rfl hM.2.1 (N := 380) (by omega) (by omega) (by decide) (k_val (v' := .int (iI (f ((20 + (40 * m)) + w).toNat))) rfl ?_)
  exact k_iret dX6_of_14 rfl rfl (kret (by rfl) _)
theorem w_X6_date {l : Launch} {G : kG} {h : kAH} {o g r : Nat} {c wm wd : Int} {f : Nat → Int} (hl : l.stackTraces = false) (hM : kMd G h o g r c wm wd f) (m dt w : Int) (h0 : 0 ≤ 20 + 40 * m + (10 + 4 * dt + w)) (h1 : 20 + 40 * m + (10 + 4 * dt + w) < 380) : kP l G m_X6_date 2 [.ref o, .int (iI m), .int (iI dt), .int (iI w)] h (.int (iI (dF f m dt w))) := by
  refine kC_of hl rfl rfl (Nat.le_of_ble_eq_true rfl) (L := [some (.ref o), some (.int (iI m)), some (.int (iI dt)), some (.int (iI w))]) rfl ?_
  refine k_aload_n (pc1 := 1) dX6_date_0 rfl rfl ?_
  refine k_iload_n (pc1 := 2) dX6_date_1 rfl rfl ?_
  refine k_bipush 10 (pc1 := 4) dX6_date_2 rfl (by decide) ?_
  refine k_iconst (pc1 := 5) dX6_date_4 rfl ?_
  refine k_iload_n (pc1 := 6) dX6_date_5 rfl rfl ?_
  refine k_imul (a := 4) (b := dt) (pc1 := 7) dX6_date_6 rfl ?_
  refine k_iadd (a := 10) (b := (4 * dt)) (pc1 := 8) dX6_date_7 rfl ?_
  refine k_iload_n (pc1 := 9) dX6_date_8 rfl rfl ?_
  refine k_iadd (a := (10 + (4 * dt))) (b := w) (pc1 := 10) dX6_date_9 rfl ?_
  refine k_callVP dX6_date_10 rfl lk_RX6_37 o_X6_of (w_X6_of hl hM m ((10 + (4 * dt)) + w) (by omega) (by omega)) (as := [.int (iI m), .int (iI ((10 + (4 * dt)) + w))]) hM.1 rfl rfl rfl rfl (by decide) (by decide) (k8 rfl) ?_
  exact k_iret dX6_date_13 rfl rfl (kret (by rfl) _)
theorem w_X6_isExpected {l : Launch} {G : kG} {h : kAH} {o g r : Nat} {c wm wd : Int} {f : Nat → Int} (hl : l.stackTraces = false) (hM : kMd G h o g r c wm wd f) (m p : Int) (hW : kWf f) (hm0 : 0 ≤ m) (hm1 : m < f 1) (hp0 : 0 ≤ p) (hp1 : p < 6) : kP l G m_X6_isExpected 2 [.ref o, .int (iI m), .int (iI p)] h (.int (iI (kB (exF f m p)))) := by
  have h1 := kWf_m hW hm0 hm1
  have h2 := kWf_p hW hm0 hm1 hp0 hp1
  have h8 := kWf_cnt hW
  refine kC_of hl rfl rfl (Nat.le_of_ble_eq_true rfl) (L := [some (.ref o), some (.int (iI m)), some (.int (iI p))]) rfl ?_
  refine k_iload_n (pc1 := 1) dX6_isExpected_0 rfl rfl ?_
  refine k_aload_n (pc1 := 2) dX6_isExpected_1 rfl rfl ?_
  refine k_iload_n (pc1 := 3) dX6_isExpected_2 rfl rfl ?_
  refine k_iconst (pc1 := 4) dX6_isExpected_3 rfl ?_
  refine k_callVP dX6_isExpected_4 rfl lk_RX6_37 o_X6_of (w_X6_of hl hM m 1 (by omega) (by omega)) (as := [.int (iI m), .int (iI 1)]) hM.1 rfl rfl rfl rfl (by decide) (by decide) (k8 rfl) ?_
  refine k_icmp_eq (a := p) (b := (oF f m 1)) dX6_isExpected_7 rfl (tgt := 36) rfl (by omega) (by omega) (fun c7 : p = (oF f m 1) => ?_) (fun c7 : p ≠ (oF f m 1) => ?_)
  · skip
    refine k_iconst (pc1 := 37) dX6_isExpected_36 rfl ?_
    refine k_goto dX6_isExpected_37 (tgt := 41) rfl ?_
    exact k_iret dX6_isExpected_41 rfl rfl (kret (kB_t (by unfold exF; omega)).symm _)
  · skip
    refine k_aload_n (pc1 := 11) dX6_isExpected_10 rfl rfl ?_
    refine k_iload_n (pc1 := 12) dX6_isExpected_11 rfl rfl ?_
    refine k_iconst (pc1 := 13) dX6_isExpected_12 rfl ?_
    refine k_iload_n (pc1 := 14) dX6_isExpected_13 rfl rfl ?_
    refine k_iadd (a := 4) (b := p) (pc1 := 15) dX6_isExpected_14 rfl ?_
    refine k_callVP dX6_isExpected_15 rfl lk_RX6_37 o_X6_of (w_X6_of hl hM m (4 + p) (by omega) (by omega)) (as := [.int (iI m), .int (iI (4 + p))]) hM.1 rfl rfl rfl rfl (by decide) (by decide) (k8 rfl) ?_
    refine k_bipush 111 (pc1 := 20) dX6_isExpected_18 rfl (by decide) ?_
    refine k_icmp_eq (a := (oF f m (4 + p))) (b := 111) dX6_isExpected_20 rfl (tgt := 36) rfl (by omega) (by decide) (fun c20 : (oF f m (4 + p)) = 111 => ?_) (fun c20 : (oF f m (4 + p)) ≠ 111 => ?_)
    · skip
      refine k_iconst (pc1 := 37) dX6_isExpected_36 rfl ?_
      refine k_goto dX6_isExpected_37 (tgt := 41) rfl ?_
      exact k_iret dX6_isExpected_41 rfl rfl (kret (kB_t (by unfold exF; omega)).symm _)
    · skip
      refine k_aload_n (pc1 := 24) dX6_isExpected_23 rfl rfl ?_
      refine k_iload_n (pc1 := 25) dX6_isExpected_24 rfl rfl ?_
      refine k_iconst (pc1 := 26) dX6_isExpected_25 rfl ?_
      refine k_iload_n (pc1 := 27) dX6_isExpected_26 rfl rfl ?_
      refine k_iadd (a := 4) (b := p) (pc1 := 28) dX6_isExpected_27 rfl ?_
      refine k_callVP dX6_isExpected_28 rfl lk_RX6_37 o_X6_of (w_X6_of hl hM m (4 + p) (by omega) (by omega)) (as := [.int (iI m), .int (iI (4 + p))]) hM.1 rfl rfl rfl rfl (by decide) (by decide) (k8 rfl) ?_
      refine k_bipush 121 (pc1 := 33) dX6_isExpected_31 rfl (by decide) ?_
      refine k_icmp_ne (a := (oF f m (4 + p))) (b := 121) dX6_isExpected_33 rfl (tgt := 40) rfl (by omega) (by decide) (fun c33 : (oF f m (4 + p)) ≠ 121 => ?_) (fun c33 : (oF f m (4 + p)) = 121 => ?_)
      · skip
        refine k_iconst (pc1 := 41) dX6_isExpected_40 rfl ?_
        exact k_iret dX6_isExpected_41 rfl rfl (kret (kB_f (by unfold exF; omega)).symm _)
      · skip
        refine k_iconst (pc1 := 37) dX6_isExpected_36 rfl ?_
        refine k_goto dX6_isExpected_37 (tgt := 41) rfl ?_
        exact k_iret dX6_isExpected_41 rfl rfl (kret (kB_t (by unfold exF; omega)).symm _)
