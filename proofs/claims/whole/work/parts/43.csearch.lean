/-! ===== the class: its searches, walked ===== -/
theorem w_rwY {l : Launch} {G : kG} {h : kAH} (hl : l.stackTraces = false) {a b e : Int} (ra : -2147483648 ≤ a ∧ a < 2147483648) (rb : -2147483648 ≤ b ∧ b < 2147483648) (re : -2147483648 ≤ e ∧ e < 2147483648) (hc : b ≤ a ∧ a ≤ e) : kC l G m_X5_requireWithin 1 0 0 [.int (iI a), .int (iI b), .int (iI e)] h (fun v h' => v = none ∧ h' = h) kNo := by
  refine kC_of hl rfl rfl (Nat.le_of_ble_eq_true rfl) (L := [some (.int (iI a)), some (.int (iI b)), some (.int (iI e))]) rfl ?_
  refine k_iload_n (pc1 := 1) dX5_requireWithin_0 rfl rfl ?_
  refine k_iload_n (pc1 := 2) dX5_requireWithin_1 rfl rfl ?_
  refine k_icmp_lt (a := a) (b := b) dX5_requireWithin_2 rfl (tgt := 10) rfl (by omega) (by omega) (fun c2 : a < b => ?_) (fun c2 : b ≤ a => ?_)
  · skip
    exfalso; omega
  · skip
    refine k_iload_n (pc1 := 6) dX5_requireWithin_5 rfl rfl ?_
    refine k_iload_n (pc1 := 7) dX5_requireWithin_6 rfl rfl ?_
    refine k_icmp_le (a := a) (b := e) dX5_requireWithin_7 rfl (tgt := 21) rfl (by omega) (by omega) (fun c7 : a ≤ e => ?_) (fun c7 : e < a => ?_)
    · skip
      exact k_vret dX5_requireWithin_21 rfl ⟨rfl, rfl⟩
    · skip
      exfalso; omega
theorem w_rwN {l : Launch} {G : kG} {h : kAH} (hl : l.stackTraces = false) {a b e : Int} (ra : -2147483648 ≤ a ∧ a < 2147483648) (rb : -2147483648 ≤ b ∧ b < 2147483648) (re : -2147483648 ≤ e ∧ e < 2147483648) (hc : ¬ (b ≤ a ∧ a ≤ e)) : kC l G m_X5_requireWithin 1 1 6 [.int (iI a), .int (iI b), .int (iI e)] h kNv (kTh "java/lang/IllegalArgumentException" h) := by
  refine kC_of hl rfl rfl (Nat.le_of_ble_eq_true rfl) (L := [some (.int (iI a)), some (.int (iI b)), some (.int (iI e))]) rfl ?_
  refine k_iload_n (pc1 := 1) dX5_requireWithin_0 rfl rfl ?_
  refine k_iload_n (pc1 := 2) dX5_requireWithin_1 rfl rfl ?_
  refine k_icmp_lt (a := a) (b := b) dX5_requireWithin_2 rfl (tgt := 10) rfl (by omega) (by omega) (fun c2 : a < b => ?_) (fun c2 : b ≤ a => ?_)
  · skip
    exact k_throwW 13 14 17 20 rfl dX5_requireWithin_10 dX5_requireWithin_13 dX5_requireWithin_14 dX5_requireWithin_17 dX5_requireWithin_20 rfl rfl rfl rfl rfl (by decide) (by decide) cl_RX5_142 ini_IllegalArgumentException (text := "a number is out of range") (by decide +kernel) at_RX5_146 (k8 rfl) (by decide) (by decide) ⟨rfl, rfl⟩
  · skip
    refine k_iload_n (pc1 := 6) dX5_requireWithin_5 rfl rfl ?_
    refine k_iload_n (pc1 := 7) dX5_requireWithin_6 rfl rfl ?_
    refine k_icmp_le (a := a) (b := e) dX5_requireWithin_7 rfl (tgt := 21) rfl (by omega) (by omega) (fun c7 : a ≤ e => ?_) (fun c7 : e < a => ?_)
    · skip
      exfalso; omega
    · skip
      exact k_throwW 13 14 17 20 rfl dX5_requireWithin_10 dX5_requireWithin_13 dX5_requireWithin_14 dX5_requireWithin_17 dX5_requireWithin_20 rfl rfl rfl rfl rfl (by decide) (by decide) cl_RX5_142 ini_IllegalArgumentException (text := "a number is out of range") (by decide +kernel) at_RX5_146 (k8 rfl) (by decide) (by decide) ⟨rfl, rfl⟩
theorem w_rpY {l : Launch} {G : kG} {h : kAH} (hl : l.stackTraces = false) {a : Int} (ra : -2147483648 ≤ a ∧ a < 2147483648) (hc : 0 ≤ a ∧ a ≤ 5) : kC l G m_X5_requirePerson 2 0 0 [.int (iI a)] h (fun v h' => v = none ∧ h' = h) kNo := by
  refine kC_of hl rfl rfl (Nat.le_of_ble_eq_true rfl) (L := [some (.int (iI a))]) rfl ?_
  refine k_iload_n (pc1 := 1) dX5_requirePerson_0 rfl rfl ?_
  refine k_iconst (pc1 := 2) dX5_requirePerson_1 rfl ?_
  refine k_iconst (pc1 := 3) dX5_requirePerson_2 rfl ?_
  refine k_callS dX5_requirePerson_3 rfl rfl lk_RX5_49 o_X5_requireWithin (as := [.int (iI a), .int (iI 0), .int (iI 5)]) rfl rfl (w_rwY hl (by omega) (by decide) (by decide) (by omega)) (by decide) (by decide) (by decide) (by decide) (k8 rfl) (fun v h9 hv => ?_) (fun E h9 z => z.elim)
  obtain ⟨hv1, hv2⟩ := hv
  subst hv1
  rw [hv2]
  refine k_st (st' := []) rfl ?_
  exact k_vret dX5_requirePerson_6 rfl ⟨rfl, rfl⟩
theorem w_rpN {l : Launch} {G : kG} {h : kAH} (hl : l.stackTraces = false) {a : Int} (ra : -2147483648 ≤ a ∧ a < 2147483648) (hc : ¬ (0 ≤ a ∧ a ≤ 5)) : kC l G m_X5_requirePerson 2 1 6 [.int (iI a)] h kNv (kTh "java/lang/IllegalArgumentException" h) := by
  refine kC_of hl rfl rfl (Nat.le_of_ble_eq_true rfl) (L := [some (.int (iI a))]) rfl ?_
  refine k_iload_n (pc1 := 1) dX5_requirePerson_0 rfl rfl ?_
  refine k_iconst (pc1 := 2) dX5_requirePerson_1 rfl ?_
  refine k_iconst (pc1 := 3) dX5_requirePerson_2 rfl ?_
  by_cases hq3 : 0 ≤ a ∧ a ≤ 5
  · skip
    refine k_callS dX5_requirePerson_3 rfl rfl lk_RX5_49 o_X5_requireWithin (as := [.int (iI a), .int (iI 0), .int (iI 5)]) rfl rfl (w_rwY hl (by omega) (by decide) (by decide) hq3) (by decide) (by decide) (by decide) (by decide) (k8 rfl) (fun v h9 hv => ?_) (fun E h9 z => z.elim)
    obtain ⟨hv1, hv2⟩ := hv
    subst hv1
    rw [hv2]
    refine k_st (st' := []) rfl ?_
    exfalso; omega
  · skip
    refine k_callS dX5_requirePerson_3 rfl rfl lk_RX5_49 o_X5_requireWithin (as := [.int (iI a), .int (iI 0), .int (iI 5)]) rfl rfl (w_rwN hl (by omega) (by decide) (by decide) hq3) (by decide) (by decide) (by decide) (by decide) (k8 rfl) (fun v h9 z => z.elim) (fun E h9 z => kx_out rfl ?_)
    obtain ⟨hv1, hv2⟩ := z
    subst hv1
    rw [hv2]
    exact ⟨rfl, rfl⟩
theorem w_rdY {l : Launch} {G : kG} {h : kAH} (hl : l.stackTraces = false) {a : Int} (ra : -2147483648 ≤ a ∧ a < 2147483648) (hc : 0 ≤ a ∧ a ≤ 27) : kC l G m_X5_requireDay 2 0 0 [.int (iI a)] h (fun v h' => v = none ∧ h' = h) kNo := by
  refine kC_of hl rfl rfl (Nat.le_of_ble_eq_true rfl) (L := [some (.int (iI a))]) rfl ?_
  refine k_iload_n (pc1 := 1) dX5_requireDay_0 rfl rfl ?_
  refine k_iconst (pc1 := 2) dX5_requireDay_1 rfl ?_
  refine k_bipush 27 (pc1 := 4) dX5_requireDay_2 rfl (by decide) ?_
  refine k_callS dX5_requireDay_4 rfl rfl lk_RX5_49 o_X5_requireWithin (as := [.int (iI a), .int (iI 0), .int (iI 27)]) rfl rfl (w_rwY hl (by omega) (by decide) (by decide) (by omega)) (by decide) (by decide) (by decide) (by decide) (k8 rfl) (fun v h9 hv => ?_) (fun E h9 z => z.elim)
  obtain ⟨hv1, hv2⟩ := hv
  subst hv1
  rw [hv2]
  refine k_st (st' := []) rfl ?_
  exact k_vret dX5_requireDay_7 rfl ⟨rfl, rfl⟩
theorem w_rdN {l : Launch} {G : kG} {h : kAH} (hl : l.stackTraces = false) {a : Int} (ra : -2147483648 ≤ a ∧ a < 2147483648) (hc : ¬ (0 ≤ a ∧ a ≤ 27)) : kC l G m_X5_requireDay 2 1 6 [.int (iI a)] h kNv (kTh "java/lang/IllegalArgumentException" h) := by
  refine kC_of hl rfl rfl (Nat.le_of_ble_eq_true rfl) (L := [some (.int (iI a))]) rfl ?_
  refine k_iload_n (pc1 := 1) dX5_requireDay_0 rfl rfl ?_
  refine k_iconst (pc1 := 2) dX5_requireDay_1 rfl ?_
  refine k_bipush 27 (pc1 := 4) dX5_requireDay_2 rfl (by decide) ?_
  by_cases hq4 : 0 ≤ a ∧ a ≤ 27
  · skip
    refine k_callS dX5_requireDay_4 rfl rfl lk_RX5_49 o_X5_requireWithin (as := [.int (iI a), .int (iI 0), .int (iI 27)]) rfl rfl (w_rwY hl (by omega) (by decide) (by decide) hq4) (by decide) (by decide) (by decide) (by decide) (k8 rfl) (fun v h9 hv => ?_) (fun E h9 z => z.elim)
    obtain ⟨hv1, hv2⟩ := hv
    subst hv1
    rw [hv2]
    refine k_st (st' := []) rfl ?_
    exfalso; omega
  · skip
    refine k_callS dX5_requireDay_4 rfl rfl lk_RX5_49 o_X5_requireWithin (as := [.int (iI a), .int (iI 0), .int (iI 27)]) rfl rfl (w_rwN hl (by omega) (by decide) (by decide) hq4) (by decide) (by decide) (by decide) (by decide) (k8 rfl) (fun v h9 z => z.elim) (fun E h9 z => kx_out rfl ?_)
    obtain ⟨hv1, hv2⟩ := z
    subst hv1
    rw [hv2]
    exact ⟨rfl, rfl⟩
theorem w_rsY {l : Launch} {G : kG} {h : kAH} (hl : l.stackTraces = false) {a b e : Int} (ra : -2147483648 ≤ a ∧ a < 2147483648) (rb : -2147483648 ≤ b ∧ b < 2147483648) (re : -2147483648 ≤ e ∧ e < 2147483648) (hc : 0 ≤ a ∧ a ≤ 27 ∧ 0 ≤ b ∧ b ≤ 15 ∧ 1 ≤ e ∧ e ≤ 6 ∧ b + e ≤ 16) : kC l G m_X5_requireSlot 3 0 0 [.int (iI a), .int (iI b), .int (iI e)] h (fun v h' => v = none ∧ h' = h) kNo := by
  refine kC_of hl rfl rfl (Nat.le_of_ble_eq_true rfl) (L := [some (.int (iI a)), some (.int (iI b)), some (.int (iI e))]) rfl ?_
  refine k_iload_n (pc1 := 1) dX5_requireSlot_0 rfl rfl ?_
  refine k_callS dX5_requireSlot_1 rfl rfl lk_RX5_117 o_X5_requireDay (as := [.int (iI a)]) rfl rfl (w_rdY hl (by omega) (by omega)) (by decide) (by decide) (by decide) (by decide) (k8 rfl) (fun v h9 hv => ?_) (fun E h9 z => z.elim)
  obtain ⟨hv1, hv2⟩ := hv
  subst hv1
  rw [hv2]
  refine k_st (st' := []) rfl ?_
  refine k_iload_n (pc1 := 5) dX5_requireSlot_4 rfl rfl ?_
  refine k_iconst (pc1 := 6) dX5_requireSlot_5 rfl ?_
  refine k_bipush 15 (pc1 := 8) dX5_requireSlot_6 rfl (by decide) ?_
  refine k_callS dX5_requireSlot_8 rfl rfl lk_RX5_49 o_X5_requireWithin (as := [.int (iI b), .int (iI 0), .int (iI 15)]) rfl rfl (w_rwY hl (by omega) (by decide) (by decide) (by omega)) (by decide) (by decide) (by decide) (by decide) (k8 rfl) (fun v h9 hv => ?_) (fun E h9 z => z.elim)
  obtain ⟨hv1, hv2⟩ := hv
  subst hv1
  rw [hv2]
  refine k_st (st' := []) rfl ?_
  refine k_iload_n (pc1 := 12) dX5_requireSlot_11 rfl rfl ?_
  refine k_iconst (pc1 := 13) dX5_requireSlot_12 rfl ?_
  refine k_bipush 6 (pc1 := 15) dX5_requireSlot_13 rfl (by decide) ?_
  refine k_callS dX5_requireSlot_15 rfl rfl lk_RX5_49 o_X5_requireWithin (as := [.int (iI e), .int (iI 1), .int (iI 6)]) rfl rfl (w_rwY hl (by omega) (by decide) (by decide) (by omega)) (by decide) (by decide) (by decide) (by decide) (k8 rfl) (fun v h9 hv => ?_) (fun E h9 z => z.elim)
  obtain ⟨hv1, hv2⟩ := hv
  subst hv1
  rw [hv2]
  refine k_st (st' := []) rfl ?_
  refine k_iload_n (pc1 := 19) dX5_requireSlot_18 rfl rfl ?_
  refine k_iload_n (pc1 := 20) dX5_requireSlot_19 rfl rfl ?_
  refine k_iadd (a := b) (b := e) (pc1 := 21) dX5_requireSlot_20 rfl ?_
  refine k_iconst (pc1 := 22) dX5_requireSlot_21 rfl ?_
  refine k_bipush 16 (pc1 := 24) dX5_requireSlot_22 rfl (by decide) ?_
  refine k_callS dX5_requireSlot_24 rfl rfl lk_RX5_49 o_X5_requireWithin (as := [.int (iI (b + e)), .int (iI 1), .int (iI 16)]) rfl rfl (w_rwY hl (by omega) (by decide) (by decide) (by omega)) (by decide) (by decide) (by decide) (by decide) (k8 rfl) (fun v h9 hv => ?_) (fun E h9 z => z.elim)
  obtain ⟨hv1, hv2⟩ := hv
  subst hv1
  rw [hv2]
  refine k_st (st' := []) rfl ?_
  exact k_vret dX5_requireSlot_27 rfl ⟨rfl, rfl⟩
theorem w_rsN {l : Launch} {G : kG} {h : kAH} (hl : l.stackTraces = false) {a b e : Int} (ra : -2147483648 ≤ a ∧ a < 2147483648) (rb : -2147483648 ≤ b ∧ b < 2147483648) (re : -2147483648 ≤ e ∧ e < 2147483648) (hc : ¬ (0 ≤ a ∧ a ≤ 27 ∧ 0 ≤ b ∧ b ≤ 15 ∧ 1 ≤ e ∧ e ≤ 6 ∧ b + e ≤ 16)) : kC l G m_X5_requireSlot 3 1 6 [.int (iI a), .int (iI b), .int (iI e)] h kNv (kTh "java/lang/IllegalArgumentException" h) := by
  refine kC_of hl rfl rfl (Nat.le_of_ble_eq_true rfl) (L := [some (.int (iI a)), some (.int (iI b)), some (.int (iI e))]) rfl ?_
  refine k_iload_n (pc1 := 1) dX5_requireSlot_0 rfl rfl ?_
  by_cases hq1 : 0 ≤ a ∧ a ≤ 27
  · skip
    refine k_callS dX5_requireSlot_1 rfl rfl lk_RX5_117 o_X5_requireDay (as := [.int (iI a)]) rfl rfl (w_rdY hl (by omega) hq1) (by decide) (by decide) (by decide) (by decide) (k8 rfl) (fun v h9 hv => ?_) (fun E h9 z => z.elim)
    obtain ⟨hv1, hv2⟩ := hv
    subst hv1
    rw [hv2]
    refine k_st (st' := []) rfl ?_
    refine k_iload_n (pc1 := 5) dX5_requireSlot_4 rfl rfl ?_
    refine k_iconst (pc1 := 6) dX5_requireSlot_5 rfl ?_
    refine k_bipush 15 (pc1 := 8) dX5_requireSlot_6 rfl (by decide) ?_
    by_cases hq8 : 0 ≤ b ∧ b ≤ 15
    · skip
      refine k_callS dX5_requireSlot_8 rfl rfl lk_RX5_49 o_X5_requireWithin (as := [.int (iI b), .int (iI 0), .int (iI 15)]) rfl rfl (w_rwY hl (by omega) (by decide) (by decide) hq8) (by decide) (by decide) (by decide) (by decide) (k8 rfl) (fun v h9 hv => ?_) (fun E h9 z => z.elim)
      obtain ⟨hv1, hv2⟩ := hv
      subst hv1
      rw [hv2]
      refine k_st (st' := []) rfl ?_
      refine k_iload_n (pc1 := 12) dX5_requireSlot_11 rfl rfl ?_
      refine k_iconst (pc1 := 13) dX5_requireSlot_12 rfl ?_
      refine k_bipush 6 (pc1 := 15) dX5_requireSlot_13 rfl (by decide) ?_
      by_cases hq15 : 1 ≤ e ∧ e ≤ 6
      · skip
        refine k_callS dX5_requireSlot_15 rfl rfl lk_RX5_49 o_X5_requireWithin (as := [.int (iI e), .int (iI 1), .int (iI 6)]) rfl rfl (w_rwY hl (by omega) (by decide) (by decide) hq15) (by decide) (by decide) (by decide) (by decide) (k8 rfl) (fun v h9 hv => ?_) (fun E h9 z => z.elim)
        obtain ⟨hv1, hv2⟩ := hv
        subst hv1
        rw [hv2]
        refine k_st (st' := []) rfl ?_
        refine k_iload_n (pc1 := 19) dX5_requireSlot_18 rfl rfl ?_
        refine k_iload_n (pc1 := 20) dX5_requireSlot_19 rfl rfl ?_
        refine k_iadd (a := b) (b := e) (pc1 := 21) dX5_requireSlot_20 rfl ?_
        refine k_iconst (pc1 := 22) dX5_requireSlot_21 rfl ?_
        refine k_bipush 16 (pc1 := 24) dX5_requireSlot_22 rfl (by decide) ?_
        by_cases hq24 : 1 ≤ (b + e) ∧ (b + e) ≤ 16
        · skip
          refine k_callS dX5_requireSlot_24 rfl rfl lk_RX5_49 o_X5_requireWithin (as := [.int (iI (b + e)), .int (iI 1), .int (iI 16)]) rfl rfl (w_rwY hl (by omega) (by decide) (by decide) hq24) (by decide) (by decide) (by decide) (by decide) (k8 rfl) (fun v h9 hv => ?_) (fun E h9 z => z.elim)
          obtain ⟨hv1, hv2⟩ := hv
          subst hv1
          rw [hv2]
          refine k_st (st' := []) rfl ?_
          exfalso; omega
        · skip
          refine k_callS dX5_requireSlot_24 rfl rfl lk_RX5_49 o_X5_requireWithin (as := [.int (iI (b + e)), .int (iI 1), .int (iI 16)]) rfl rfl (w_rwN hl (by omega) (by decide) (by decide) hq24) (by decide) (by decide) (by decide) (by decide) (k8 rfl) (fun v h9 z => z.elim) (fun E h9 z => kx_out rfl ?_)
          obtain ⟨hv1, hv2⟩ := z
          subst hv1
          rw [hv2]
          exact ⟨rfl, rfl⟩
      · skip
        refine k_callS dX5_requireSlot_15 rfl rfl lk_RX5_49 o_X5_requireWithin (as := [.int (iI e), .int (iI 1), .int (iI 6)]) rfl rfl (w_rwN hl (by omega) (by decide) (by decide) hq15) (by decide) (by decide) (by decide) (by decide) (k8 rfl) (fun v h9 z => z.elim) (fun E h9 z => kx_out rfl ?_)
        obtain ⟨hv1, hv2⟩ := z
        subst hv1
        rw [hv2]
        exact ⟨rfl, rfl⟩
    · skip
      refine k_callS dX5_requireSlot_8 rfl rfl lk_RX5_49 o_X5_requireWithin (as := [.int (iI b), .int (iI 0), .int (iI 15)]) rfl rfl (w_rwN hl (by omega) (by decide) (by decide) hq8) (by decide) (by decide) (by decide) (by decide) (k8 rfl) (fun v h9 z => z.elim) (fun E h9 z => kx_out rfl ?_)
      obtain ⟨hv1, hv2⟩ := z
      subst hv1
      rw [hv2]
      exact ⟨rfl, rfl⟩
  · skip
    refine k_callS dX5_requireSlot_1 rfl rfl lk_RX5_117 o_X5_requireDay (as := [.int (iI a)]) rfl rfl (w_rdN hl (by omega) hq1) (by decide) (by decide) (by decide) (by decide) (k8 rfl) (fun v h9 z => z.elim) (fun E h9 z => kx_out rfl ?_)
    obtain ⟨hv1, hv2⟩ := z
    subst hv1
    rw [hv2]
    exact ⟨rfl, rfl⟩
theorem w_rmY {l : Launch} {G : kG} {h : kAH} (hl : l.stackTraces = false) {pl : Nat} {γ : kGh} {A : kAb} {f : Nat → Int} (hC : kRp G h pl γ A f) {x : Int} (hx : 0 ≤ x ∧ x < 4) : kC l G m_X5_roomWith 1 0 0 [.ref pl, .int (iI x)] h (kPq (.ref (gRm γ x)) h) kNo := by
  obtain ⟨F, hF, hF2⟩ := rp_Ra hC
  refine kC_of hl rfl rfl (Nat.le_of_ble_eq_true rfl) (L := [some (.ref pl), some (.int (iI x))]) rfl ?_
  refine k_iload_n (pc1 := 1) dX5_roomWith_0 rfl rfl ?_
  refine k_if_lt (a := x) dX5_roomWith_1 rfl (tgt := 13) rfl (by omega) (fun c1 : x < 0 => ?_) (fun c1 : ¬ x < 0 => ?_)
  · skip
    exfalso; omega
  · skip
    refine k_iload_n (pc1 := 5) dX5_roomWith_4 rfl rfl ?_
    refine k_aload_n (pc1 := 6) dX5_roomWith_5 rfl rfl ?_
    refine k_get (pc1 := 9) dX5_roomWith_6 rfl fd_RX5_12 (rp_P hC) (v := .ref (gRa γ)) rfl ?_
    refine k_alenR (pc1 := 10) dX5_roomWith_9 rfl hF (j := 5) rfl ?_
    refine k_icmp_lt (a := x) (b := ((4 : Nat) : Int)) dX5_roomWith_10 rfl (tgt := 24) rfl (by omega) (by omega) (fun c10 : x < ((4 : Nat) : Int) => ?_) (fun c10 : ((4 : Nat) : Int) ≤ x => ?_)
    · skip
      refine k_aload_n (pc1 := 25) dX5_roomWith_24 rfl rfl ?_
      refine k_get (pc1 := 28) dX5_roomWith_25 rfl fd_RX5_12 (rp_P hC) (v := .ref (gRa γ)) rfl ?_
      refine k_iload_n (pc1 := 29) dX5_roomWith_28 rfl rfl ?_
      refine k_aald (i := x) (pc1 := 30) dX5_roomWith_29 rfl hF (j := 5) rfl (by omega) (by omega) (by decide) (k_val (v' := .ref (gRm γ x)) (congrArg va_rf (hF2 x hx.1 hx.2)) ?_)
      exact k_aret dX5_roomWith_30 rfl (Or.inl ⟨_, rfl⟩) (Or.inr ⟨_, rfl⟩) ⟨rfl, rfl⟩
    · skip
      exfalso; omega
theorem w_rmN {l : Launch} {G : kG} {h : kAH} (hl : l.stackTraces = false) {pl : Nat} {γ : kGh} {A : kAb} {f : Nat → Int} (hC : kRp G h pl γ A f) {x : Int} (rx : -2147483648 ≤ x ∧ x < 2147483648) (hx : ¬ (0 ≤ x ∧ x < 4)) : kC l G m_X5_roomWith 1 1 6 [.ref pl, .int (iI x)] h kNv (kTh "java/lang/IllegalArgumentException" h) := by
  obtain ⟨F, hF, hF2⟩ := rp_Ra hC
  refine kC_of hl rfl rfl (Nat.le_of_ble_eq_true rfl) (L := [some (.ref pl), some (.int (iI x))]) rfl ?_
  refine k_iload_n (pc1 := 1) dX5_roomWith_0 rfl rfl ?_
  refine k_if_lt (a := x) dX5_roomWith_1 rfl (tgt := 13) rfl (by omega) (fun c1 : x < 0 => ?_) (fun c1 : ¬ x < 0 => ?_)
  · skip
    exact k_throwW 16 17 20 23 rfl dX5_roomWith_13 dX5_roomWith_16 dX5_roomWith_17 dX5_roomWith_20 dX5_roomWith_23 rfl rfl rfl rfl rfl (by decide) (by decide) cl_RX5_142 ini_IllegalArgumentException (text := "no such room") (by decide +kernel) at_RX5_146 (k8 rfl) (by decide) (by decide) ⟨rfl, rfl⟩
  · skip
    refine k_iload_n (pc1 := 5) dX5_roomWith_4 rfl rfl ?_
    refine k_aload_n (pc1 := 6) dX5_roomWith_5 rfl rfl ?_
    refine k_get (pc1 := 9) dX5_roomWith_6 rfl fd_RX5_12 (rp_P hC) (v := .ref (gRa γ)) rfl ?_
    refine k_alenR (pc1 := 10) dX5_roomWith_9 rfl hF (j := 5) rfl ?_
    refine k_icmp_lt (a := x) (b := ((4 : Nat) : Int)) dX5_roomWith_10 rfl (tgt := 24) rfl (by omega) (by omega) (fun c10 : x < ((4 : Nat) : Int) => ?_) (fun c10 : ((4 : Nat) : Int) ≤ x => ?_)
    · skip
      exfalso; omega
    · skip
      exact k_throwW 16 17 20 23 rfl dX5_roomWith_13 dX5_roomWith_16 dX5_roomWith_17 dX5_roomWith_20 dX5_roomWith_23 rfl rfl rfl rfl rfl (by decide) (by decide) cl_RX5_142 ini_IllegalArgumentException (text := "no such room") (by decide +kernel) at_RX5_146 (k8 rfl) (by decide) (by decide) ⟨rfl, rfl⟩
theorem w_dyY {l : Launch} {G : kG} {h : kAH} (hl : l.stackTraces = false) {pl : Nat} {γ : kGh} {A : kAb} {f : Nat → Int} (hC : kRp G h pl γ A f) {x : Int} (hx : 0 ≤ x ∧ x < 28) : kC l G m_X5_dayWith 1 0 0 [.ref pl, .int (iI x)] h (kPq (.ref (gDy γ x)) h) kNo := by
  obtain ⟨F, hF, hF2⟩ := rp_Da hC
  refine kC_of hl rfl rfl (Nat.le_of_ble_eq_true rfl) (L := [some (.ref pl), some (.int (iI x))]) rfl ?_
  refine k_iload_n (pc1 := 1) dX5_dayWith_0 rfl rfl ?_
  refine k_if_lt (a := x) dX5_dayWith_1 rfl (tgt := 13) rfl (by omega) (fun c1 : x < 0 => ?_) (fun c1 : ¬ x < 0 => ?_)
  · skip
    exfalso; omega
  · skip
    refine k_iload_n (pc1 := 5) dX5_dayWith_4 rfl rfl ?_
    refine k_aload_n (pc1 := 6) dX5_dayWith_5 rfl rfl ?_
    refine k_get (pc1 := 9) dX5_dayWith_6 rfl fd_RX5_20 (rp_P hC) (v := .ref (gDa γ)) rfl ?_
    refine k_alenR (pc1 := 10) dX5_dayWith_9 rfl hF (j := 4) rfl ?_
    refine k_icmp_lt (a := x) (b := ((28 : Nat) : Int)) dX5_dayWith_10 rfl (tgt := 24) rfl (by omega) (by omega) (fun c10 : x < ((28 : Nat) : Int) => ?_) (fun c10 : ((28 : Nat) : Int) ≤ x => ?_)
    · skip
      refine k_aload_n (pc1 := 25) dX5_dayWith_24 rfl rfl ?_
      refine k_get (pc1 := 28) dX5_dayWith_25 rfl fd_RX5_20 (rp_P hC) (v := .ref (gDa γ)) rfl ?_
      refine k_iload_n (pc1 := 29) dX5_dayWith_28 rfl rfl ?_
      refine k_aald (i := x) (pc1 := 30) dX5_dayWith_29 rfl hF (j := 4) rfl (by omega) (by omega) (by decide) (k_val (v' := .ref (gDy γ x)) (congrArg va_rf (hF2 x hx.1 hx.2)) ?_)
      exact k_aret dX5_dayWith_30 rfl (Or.inl ⟨_, rfl⟩) (Or.inr ⟨_, rfl⟩) ⟨rfl, rfl⟩
    · skip
      exfalso; omega
theorem w_dyN {l : Launch} {G : kG} {h : kAH} (hl : l.stackTraces = false) {pl : Nat} {γ : kGh} {A : kAb} {f : Nat → Int} (hC : kRp G h pl γ A f) {x : Int} (rx : -2147483648 ≤ x ∧ x < 2147483648) (hx : ¬ (0 ≤ x ∧ x < 28)) : kC l G m_X5_dayWith 1 1 6 [.ref pl, .int (iI x)] h kNv (kTh "java/lang/IllegalArgumentException" h) := by
  obtain ⟨F, hF, hF2⟩ := rp_Da hC
  refine kC_of hl rfl rfl (Nat.le_of_ble_eq_true rfl) (L := [some (.ref pl), some (.int (iI x))]) rfl ?_
  refine k_iload_n (pc1 := 1) dX5_dayWith_0 rfl rfl ?_
  refine k_if_lt (a := x) dX5_dayWith_1 rfl (tgt := 13) rfl (by omega) (fun c1 : x < 0 => ?_) (fun c1 : ¬ x < 0 => ?_)
  · skip
    exact k_throwW 16 17 20 23 rfl dX5_dayWith_13 dX5_dayWith_16 dX5_dayWith_17 dX5_dayWith_20 dX5_dayWith_23 rfl rfl rfl rfl rfl (by decide) (by decide) cl_RX5_142 ini_IllegalArgumentException (text := "no such day") (by decide +kernel) at_RX5_146 (k8 rfl) (by decide) (by decide) ⟨rfl, rfl⟩
  · skip
    refine k_iload_n (pc1 := 5) dX5_dayWith_4 rfl rfl ?_
    refine k_aload_n (pc1 := 6) dX5_dayWith_5 rfl rfl ?_
    refine k_get (pc1 := 9) dX5_dayWith_6 rfl fd_RX5_20 (rp_P hC) (v := .ref (gDa γ)) rfl ?_
    refine k_alenR (pc1 := 10) dX5_dayWith_9 rfl hF (j := 4) rfl ?_
    refine k_icmp_lt (a := x) (b := ((28 : Nat) : Int)) dX5_dayWith_10 rfl (tgt := 24) rfl (by omega) (by omega) (fun c10 : x < ((28 : Nat) : Int) => ?_) (fun c10 : ((28 : Nat) : Int) ≤ x => ?_)
    · skip
      exfalso; omega
    · skip
      exact k_throwW 16 17 20 23 rfl dX5_dayWith_13 dX5_dayWith_16 dX5_dayWith_17 dX5_dayWith_20 dX5_dayWith_23 rfl rfl rfl rfl rfl (by decide) (by decide) cl_RX5_142 ini_IllegalArgumentException (text := "no such day") (by decide +kernel) at_RX5_146 (k8 rfl) (by decide) (by decide) ⟨rfl, rfl⟩
theorem db_bp {G : kG} {h : kAH} {pl : Nat} {γ : kGh} {A : kAb} {f : Nat → Int} {k : Int} (q : kRp G h pl γ A f) (h0 : 0 ≤ k) (h1 : k < 28) {wm wd t n : Int} {i b : Nat} (hi : i = (aDx A k).length) (z : dbI A f k (fun m d => ¬(m = wm ∧ d = wd) ∧ btF f m d t n < 0) i b) : b = bpF f wm wd k t n := by
  refine kset_eq z.1 (kmk_lt _ 6) fun p hp => ?_
  rw [z.2 p hp]
  unfold bpF
  rw [kmk_bit]
  constructor
  · rintro ⟨m, d, g1, ⟨g2, g3⟩, g4⟩
    obtain ⟨u1, u2, u3⟩ := (dy_e q h0 h1 hi).mp g1
    exact ⟨hp, m, d, u1, ⟨u2, u3, g2⟩, g3, g4⟩
  · rintro ⟨-, m, d, u1, ⟨u2, u3, g2⟩, g3, g4⟩
    exact ⟨m, d, (dy_e q h0 h1 hi).mpr ⟨u1, u2, u3⟩, ⟨g2, g3⟩, g4⟩
theorem w_busyP {l : Launch} {G : kG} {h : kAH} (hl : l.stackTraces = false) {pl : Nat} {γ : kGh} {A : kAb} {f : Nat → Int} (hC : kRp G h pl γ A f) {s : Nat} {k t n : Int} (hS : h s = some (.inr (8, [.int (iI k), .int (iI t), .int (iI n)]))) (hk : 0 ≤ k ∧ k < 28) (ht : 0 ≤ t ∧ t < 16) (hn : 1 ≤ n ∧ n ≤ 6) {lo : Option Nat} {wm wd : Int} (hlo : kLv γ f lo wm wd) : kC l G m_X5_busyPeople 4 0 0 [.ref pl, .ref s, va_rf lo] h (kPq (.int (iI (((bpF f wm wd k t n) : Nat) : Int))) h) kNo := by
  refine kC_of hl rfl rfl (by cases lo <;> exact Nat.le_of_ble_eq_true rfl) (L := [some (.ref pl), some (.ref s), some (va_rf lo), none, none, none, none]) rfl ?_
  refine k_aload_n (pc1 := 1) dX5_busyPeople_0 rfl rfl ?_
  refine k_aload_n (pc1 := 2) dX5_busyPeople_1 rfl rfl ?_
  refine k_get (pc1 := 5) dX5_busyPeople_2 rfl fd_RX5_114 hS (v := .int (iI k)) rfl ?_
  refine k_callVP dX5_busyPeople_5 rfl lk_RX5_242 o_X5_dayWith (w_dyY hl hC ⟨by omega, by omega⟩) (as := [.int (iI k)]) (rp_P hC) rfl rfl rfl rfl (by decide) (by decide) (k8 rfl) ?_
  obtain ⟨arD, cD, hDl⟩ := rp_Dl hC (k := k) (by omega) (by omega)
  obtain ⟨mcD, hDa⟩ := hDl.1
  have hlen := rp_len hC (k := k) (by omega) (by omega)
  refine k_get (pc1 := 11) dX5_busyPeople_8 rfl fd_RX5_246 (rp_Dy hC (by omega) (by omega)) (v := .ref (gDl γ k)) rfl ?_
  refine k_astore_n (pc1 := 12) dX5_busyPeople_11 rfl (by decide) (k_loc (L' := [some (.ref pl), some (.ref s), some (va_rf lo), some (.ref (gDl γ k)), none, none, none]) (kset1_q (i := 2) rfl) ?_)
  refine k_iconst (pc1 := 13) dX5_busyPeople_12 rfl ?_
  refine k_istore (pc1 := 15) dX5_busyPeople_13 rfl (by decide) (k_loc (L' := [some (.ref pl), some (.ref s), some (va_rf lo), some (.ref (gDl γ k)), some (.int (iI 0)), none, none]) rfl ?_)
  refine k_iconst (pc1 := 16) dX5_busyPeople_15 rfl ?_
  refine k_istore (pc1 := 18) dX5_busyPeople_16 rfl (by decide) (k_loc (L' := [some (.ref pl), some (.ref s), some (va_rf lo), some (.ref (gDl γ k)), some (.int (iI 0)), some (.int (iI 0)), none]) rfl ?_)
  have hloop18 : ∀ (zz : Nat) (i : Nat) (b : Nat), zz = (aDx A k).length - i → (i ≤ (aDx A k).length) → (dbI A f k (fun m d => ¬(m = wm ∧ d = wd) ∧ btF f m d t n < 0) i b) → kW l G m_X5_busyPeople 4 (kPq (.int (iI (((bpF f wm wd k t n) : Nat) : Int))) h) kNo 0 0 18 [some (.ref pl), some (.ref s), some (va_rf lo), some (.ref (gDl γ k)), some (.int (iI ((b : Nat) : Int))), some (.int (iI ((i : Nat) : Int))), none] [] h := by
    intro zz
    induction zz using Nat.strongRecOn with
    | ind zz ih18 =>
    intro i b hr18 hi9 hB
    refine k_iload (pc1 := 20) dX5_busyPeople_18 rfl rfl ?_
    refine k_aload_n (pc1 := 21) dX5_busyPeople_20 rfl rfl ?_
    refine k_callVP dX5_busyPeople_21 rfl lk_RX5_65 o_Jx4a65c_size_8abf5 (w_lsz hl hDl) (as := []) hDa rfl rfl rfl rfl (by decide) (by decide) (k8 rfl) ?_
    refine k_val (v' := .int (iI (((aDx A k).length : Nat) : Int))) (congrArg (fun z : Nat => Value.int (iI (z : Int))) (List.length_map _)) ?_
    refine k_icmp_ge (a := ((i : Nat) : Int)) (b := (((aDx A k).length : Nat) : Int)) dX5_busyPeople_24 rfl (tgt := 75) rfl (by omega) (by omega) (fun c24 : (((aDx A k).length : Nat) : Int) ≤ ((i : Nat) : Int) => ?_) (fun c24 : ((i : Nat) : Int) < (((aDx A k).length : Nat) : Int) => ?_)
    · skip
      refine k_iload (pc1 := 77) dX5_busyPeople_75 rfl rfl ?_
      have e := db_bp hC hk.1 hk.2 (show i = (aDx A k).length by omega) hB
      subst e
      exact k_iret dX5_busyPeople_77 rfl rfl (kret rfl _)
    · skip
      obtain ⟨m, dd, hi, ho, hk2, hx⟩ := rp_at hC (k := k) (by omega) (by omega) (i := i) (by omega)
      have hmm := kWf_m hC.2.2 hi.1 hi.2.1
      have hmd := kWf_d hC.2.2 hi.1 hi.2.1 hi.2.2.1 hi.2.2.2
      have hmx := rp_Mx hC hi.1 hi.2.1
      refine k_aload_n (pc1 := 28) dX5_busyPeople_27 rfl rfl ?_
      refine k_iload (pc1 := 30) dX5_busyPeople_28 rfl rfl ?_
      refine k_callVP dX5_busyPeople_30 rfl lk_RX5_131 o_Jx4a65c_get_915e3 (w_lgt hl hDl ((i : Nat) : Int) ⟨by omega, by rw [List.length_map _]; omega⟩ (by rw [show ((((i : Nat) : Int)) : Int).toNat = i from rfl, List.getElem?_map, hx]; rfl)) (as := [.int (iI ((i : Nat) : Int))]) hDa rfl rfl rfl rfl (by decide) (by decide) (k8 rfl) ?_
      refine k_cast (r := (RX0, TX0, 4)) (pc1 := 36) dX5_busyPeople_33 rfl cl_RX5_109 (rp_D hC hi) rfl ?_
      refine k_astore (pc1 := 38) dX5_busyPeople_36 rfl (by decide) (k_loc (L' := [some (.ref pl), some (.ref s), some (va_rf lo), some (.ref (gDl γ k)), some (.int (iI ((b : Nat) : Int))), some (.int (iI ((i : Nat) : Int))), some (.ref (gDt γ (oF f m 0) dd))]) rfl ?_)
      refine k_aload (pc1 := 40) dX5_busyPeople_38 rfl rfl ?_
      refine k_aload_nq (pc1 := 41) dX5_busyPeople_40 rfl rfl ?_
      refine k_acmp_eq (rx := (some (gDt γ (oF f m 0) dd))) (ry := lo) dX5_busyPeople_41 rfl (tgt := 69) rfl (fun c41 : (some (gDt γ (oF f m 0) dd)) = lo => ?_) (fun c41 : (some (gDt γ (oF f m 0) dd)) ≠ lo => ?_)
      · skip
        refine k_iinc (a := ((i : Nat) : Int)) (pc1 := 72) dX5_busyPeople_69 rfl rfl (by decide) (k_loc (L' := [some (.ref pl), some (.ref s), some (va_rf lo), some (.ref (gDl γ k)), some (.int (iI ((b : Nat) : Int))), some (.int (iI (((i : Nat) : Int) + 1))), some (.ref (gDt γ (oF f m 0) dd))]) rfl ?_)
        refine k_goto dX5_busyPeople_72 (tgt := 18) rfl ?_
        refine k_forget 6 (k_loc (L' := [some (.ref pl), some (.ref s), some (va_rf lo), some (.ref (gDl γ k)), some (.int (iI ((b : Nat) : Int))), some (.int (iI (((i : Nat) : Int) + 1))), none]) rfl ?_)
        exact ih18 _ (by omega) (i + 1) b rfl (by omega) (db_skip hC hi hx hB (fun z => by first | exact z.1 ((hlo m dd hi).mp c41) | (have z2 := (bw_neg (m := m) (d := dd) (by omega) (by omega)).mpr z.2; omega)))
      · skip
        refine k_aload (pc1 := 46) dX5_busyPeople_44 rfl rfl ?_
        refine k_get (pc1 := 49) dX5_busyPeople_46 rfl fd_RX5_108 (rp_D hC hi) (v := .ref (gSt γ (oF f m 0) dd)) rfl ?_
        refine k_aload_n (pc1 := 50) dX5_busyPeople_49 rfl rfl ?_
        refine k_callVP dX5_busyPeople_50 rfl lk_RX5_337 o_X4_timesBetween (w_X4_timesBetween hl (rp_S hC hi) hS ⟨by omega, by omega⟩ ⟨by omega, by omega⟩ ⟨by omega, by omega⟩ ⟨by omega, by omega⟩) (as := [.ref s]) (rp_S hC hi) rfl rfl rfl rfl (by decide) (by decide) (k8 rfl) ?_
        have hbr := bw_r (f := f) (m := m) (d := dd) (t := t) (n := n) ⟨by omega, by omega⟩ ⟨by omega, by omega⟩ ⟨by omega, by omega⟩ ⟨by omega, by omega⟩
        refine k_if_ge (a := (bwF f m dd t n)) dX5_busyPeople_53 rfl (tgt := 69) rfl (by omega) (fun c53 : 0 ≤ (bwF f m dd t n) => ?_) (fun c53 : (bwF f m dd t n) < 0 => ?_)
        · skip
          refine k_iinc (a := ((i : Nat) : Int)) (pc1 := 72) dX5_busyPeople_69 rfl rfl (by decide) (k_loc (L' := [some (.ref pl), some (.ref s), some (va_rf lo), some (.ref (gDl γ k)), some (.int (iI ((b : Nat) : Int))), some (.int (iI (((i : Nat) : Int) + 1))), some (.ref (gDt γ (oF f m 0) dd))]) rfl ?_)
          refine k_goto dX5_busyPeople_72 (tgt := 18) rfl ?_
          refine k_forget 6 (k_loc (L' := [some (.ref pl), some (.ref s), some (va_rf lo), some (.ref (gDl γ k)), some (.int (iI ((b : Nat) : Int))), some (.int (iI (((i : Nat) : Int) + 1))), none]) rfl ?_)
          exact ih18 _ (by omega) (i + 1) b rfl (by omega) (db_skip hC hi hx hB (fun z => by first | exact z.1 ((hlo m dd hi).mp c41) | (have z2 := (bw_neg (m := m) (d := dd) (by omega) (by omega)).mpr z.2; omega)))
        · skip
          refine k_iload (pc1 := 58) dX5_busyPeople_56 rfl rfl ?_
          refine k_aload (pc1 := 60) dX5_busyPeople_58 rfl rfl ?_
          refine k_get (pc1 := 63) dX5_busyPeople_60 rfl fd_RX5_218 (rp_D hC hi) (v := .ref (gMt γ (oF f m 0))) rfl ?_
          refine k_callVP dX5_busyPeople_63 rfl lk_RX5_308 o_X2_expectedPeople (w_X2_expectedPeople hl (rp_M hC hi.1 hi.2.1) ⟨by omega, by omega⟩ hmx.1 hmx.2.1 hmx.2.2.1) (as := []) (rp_M hC hi.1 hi.2.1) rfl rfl rfl rfl (by decide) (by decide) (k8 rfl) ?_
          refine k_ior (pc1 := 67) dX5_busyPeople_66 rfl (k_val (v' := .int (iI (((b ||| (exM (oF f m 1) (aAk A (oF f m 0)) (aNo A (oF f m 0)))) : Nat) : Int))) (congrArg Value.int iI_or) ?_)
          refine k_istore (pc1 := 69) dX5_busyPeople_67 rfl (by decide) (k_loc (L' := [some (.ref pl), some (.ref s), some (va_rf lo), some (.ref (gDl γ k)), some (.int (iI (((b ||| (exM (oF f m 1) (aAk A (oF f m 0)) (aNo A (oF f m 0)))) : Nat) : Int))), some (.int (iI ((i : Nat) : Int))), some (.ref (gDt γ (oF f m 0) dd))]) rfl ?_)
          refine k_iinc (a := ((i : Nat) : Int)) (pc1 := 72) dX5_busyPeople_69 rfl rfl (by decide) (k_loc (L' := [some (.ref pl), some (.ref s), some (va_rf lo), some (.ref (gDl γ k)), some (.int (iI (((b ||| (exM (oF f m 1) (aAk A (oF f m 0)) (aNo A (oF f m 0)))) : Nat) : Int))), some (.int (iI (((i : Nat) : Int) + 1))), some (.ref (gDt γ (oF f m 0) dd))]) rfl ?_)
          refine k_goto dX5_busyPeople_72 (tgt := 18) rfl ?_
          refine k_forget 6 (k_loc (L' := [some (.ref pl), some (.ref s), some (va_rf lo), some (.ref (gDl γ k)), some (.int (iI (((b ||| (exM (oF f m 1) (aAk A (oF f m 0)) (aNo A (oF f m 0)))) : Nat) : Int))), some (.int (iI (((i : Nat) : Int) + 1))), none]) rfl ?_)
          exact ih18 _ (by omega) (i + 1) _ rfl (by omega) (db_take hC hi hx hB ⟨fun z => c41 ((hlo m dd hi).mpr z), (bw_neg (by omega) (by omega)).mp c53⟩)
  exact hloop18 _ 0 0 rfl (by omega) db_0
theorem w_isTk {l : Launch} {G : kG} {h : kAH} (hl : l.stackTraces = false) {pl : Nat} {γ : kGh} {A : kAb} {f : Nat → Int} (hC : kRp G h pl γ A f) {rm : Int} (hr : 0 ≤ rm ∧ rm < 4) {s : Nat} {k t n : Int} (hS : h s = some (.inr (8, [.int (iI k), .int (iI t), .int (iI n)]))) (hk : 0 ≤ k ∧ k < 28) (ht : 0 ≤ t ∧ t < 16) (hn : 1 ≤ n ∧ n ≤ 6) {lo : Option Nat} {wm wd : Int} (hlo : kLv γ f lo wm wd) : kC l G m_X5_isTaken 4 0 0 [.ref pl, .ref (gRm γ rm), .ref s, va_rf lo] h (kPq (.int (iI (kB (tkF f wm wd rm k t n)))) h) kNo := by
  refine kC_of hl rfl rfl (by cases lo <;> exact Nat.le_of_ble_eq_true rfl) (L := [some (.ref pl), some (.ref (gRm γ rm)), some (.ref s), some (va_rf lo), none, none, none]) rfl ?_
  refine k_aload_n (pc1 := 1) dX5_isTaken_0 rfl rfl ?_
  refine k_aload_n (pc1 := 2) dX5_isTaken_1 rfl rfl ?_
  refine k_get (pc1 := 5) dX5_isTaken_2 rfl fd_RX5_114 hS (v := .int (iI k)) rfl ?_
  refine k_callVP dX5_isTaken_5 rfl lk_RX5_242 o_X5_dayWith (w_dyY hl hC ⟨by omega, by omega⟩) (as := [.int (iI k)]) (rp_P hC) rfl rfl rfl rfl (by decide) (by decide) (k8 rfl) ?_
  obtain ⟨arD, cD, hDl⟩ := rp_Dl hC (k := k) (by omega) (by omega)
  obtain ⟨mcD, hDa⟩ := hDl.1
  have hlen := rp_len hC (k := k) (by omega) (by omega)
  refine k_get (pc1 := 11) dX5_isTaken_8 rfl fd_RX5_246 (rp_Dy hC (by omega) (by omega)) (v := .ref (gDl γ k)) rfl ?_
  refine k_astore (pc1 := 13) dX5_isTaken_11 rfl (by decide) (k_loc (L' := [some (.ref pl), some (.ref (gRm γ rm)), some (.ref s), some (va_rf lo), some (.ref (gDl γ k)), none, none]) (kset1_q (i := 3) rfl) ?_)
  refine k_iconst (pc1 := 14) dX5_isTaken_13 rfl ?_
  refine k_istore (pc1 := 16) dX5_isTaken_14 rfl (by decide) (k_loc (L' := [some (.ref pl), some (.ref (gRm γ rm)), some (.ref s), some (va_rf lo), some (.ref (gDl γ k)), some (.int (iI 0)), none]) rfl ?_)
  have hloop16 : ∀ (zz : Nat) (i : Nat), zz = (aDx A k).length - i → (i ≤ (aDx A k).length) → (dnI A f k (fun m d => tkP f wm wd rm k t n m d) i) → kW l G m_X5_isTaken 4 (kPq (.int (iI (kB (tkF f wm wd rm k t n)))) h) kNo 0 0 16 [some (.ref pl), some (.ref (gRm γ rm)), some (.ref s), some (va_rf lo), some (.ref (gDl γ k)), some (.int (iI ((i : Nat) : Int))), none] [] h := by
    intro zz
    induction zz using Nat.strongRecOn with
    | ind zz ih16 =>
    intro i hr16 hi9 hB
    refine k_iload (pc1 := 18) dX5_isTaken_16 rfl rfl ?_
    refine k_aload (pc1 := 20) dX5_isTaken_18 rfl rfl ?_
    refine k_callVP dX5_isTaken_20 rfl lk_RX5_65 o_Jx4a65c_size_8abf5 (w_lsz hl hDl) (as := []) hDa rfl rfl rfl rfl (by decide) (by decide) (k8 rfl) ?_
    refine k_val (v' := .int (iI (((aDx A k).length : Nat) : Int))) (congrArg (fun z : Nat => Value.int (iI (z : Int))) (List.length_map _)) ?_
    refine k_icmp_ge (a := ((i : Nat) : Int)) (b := (((aDx A k).length : Nat) : Int)) dX5_isTaken_23 rfl (tgt := 73) rfl (by omega) (by omega) (fun c23 : (((aDx A k).length : Nat) : Int) ≤ ((i : Nat) : Int) => ?_) (fun c23 : ((i : Nat) : Int) < (((aDx A k).length : Nat) : Int) => ?_)
    · skip
      refine k_iconst (pc1 := 74) dX5_isTaken_73 rfl ?_
      exact k_iret dX5_isTaken_74 rfl rfl (kret (kB_f (fun ⟨m, d, z1, z2⟩ => dn_e hC hk.1 hk.2 (by omega) hB z1 z2.1.1 z2.1.2.1 z2)).symm _)
    · skip
      obtain ⟨m, dd, hi, ho, hk2, hx⟩ := rp_at hC (k := k) (by omega) (by omega) (i := i) (by omega)
      have hmm := kWf_m hC.2.2 hi.1 hi.2.1
      have hmd := kWf_d hC.2.2 hi.1 hi.2.1 hi.2.2.1 hi.2.2.2
      have hmx := rp_Mx hC hi.1 hi.2.1
      refine k_aload (pc1 := 28) dX5_isTaken_26 rfl rfl ?_
      refine k_iload (pc1 := 30) dX5_isTaken_28 rfl rfl ?_
      refine k_callVP dX5_isTaken_30 rfl lk_RX5_131 o_Jx4a65c_get_915e3 (w_lgt hl hDl ((i : Nat) : Int) ⟨by omega, by rw [List.length_map _]; omega⟩ (by rw [show ((((i : Nat) : Int)) : Int).toNat = i from rfl, List.getElem?_map, hx]; rfl)) (as := [.int (iI ((i : Nat) : Int))]) hDa rfl rfl rfl rfl (by decide) (by decide) (k8 rfl) ?_
      refine k_cast (r := (RX0, TX0, 4)) (pc1 := 36) dX5_isTaken_33 rfl cl_RX5_109 (rp_D hC hi) rfl ?_
      refine k_astore (pc1 := 38) dX5_isTaken_36 rfl (by decide) (k_loc (L' := [some (.ref pl), some (.ref (gRm γ rm)), some (.ref s), some (va_rf lo), some (.ref (gDl γ k)), some (.int (iI ((i : Nat) : Int))), some (.ref (gDt γ (oF f m 0) dd))]) rfl ?_)
      refine k_aload (pc1 := 40) dX5_isTaken_38 rfl rfl ?_
      refine k_aload_nq (pc1 := 41) dX5_isTaken_40 rfl rfl ?_
      refine k_acmp_eq (rx := (some (gDt γ (oF f m 0) dd))) (ry := lo) dX5_isTaken_41 rfl (tgt := 67) rfl (fun c41 : (some (gDt γ (oF f m 0) dd)) = lo => ?_) (fun c41 : (some (gDt γ (oF f m 0) dd)) ≠ lo => ?_)
      · skip
        refine k_iinc (a := ((i : Nat) : Int)) (pc1 := 70) dX5_isTaken_67 rfl rfl (by decide) (k_loc (L' := [some (.ref pl), some (.ref (gRm γ rm)), some (.ref s), some (va_rf lo), some (.ref (gDl γ k)), some (.int (iI (((i : Nat) : Int) + 1))), some (.ref (gDt γ (oF f m 0) dd))]) rfl ?_)
        refine k_goto dX5_isTaken_70 (tgt := 16) rfl ?_
        refine k_forget 6 (k_loc (L' := [some (.ref pl), some (.ref (gRm γ rm)), some (.ref s), some (va_rf lo), some (.ref (gDl γ k)), some (.int (iI (((i : Nat) : Int) + 1))), none]) rfl ?_)
        exact ih16 _ (by omega) (i + 1) rfl (by omega) (dn_s hC hi hx hB (fun z => by first | exact z.1.2.2 ((hlo m dd hi).mp c41) | exact c50 (congrArg some ((rp_rr hC (by omega) (by omega) hr.1 hr.2).mpr z.2.1)) | (have z2 := (bw_neg (m := m) (d := dd) (by omega) (by omega)).mpr z.2.2; omega)))
      · skip
        refine k_aload (pc1 := 46) dX5_isTaken_44 rfl rfl ?_
        refine k_get (pc1 := 49) dX5_isTaken_46 rfl fd_RX5_190 (rp_D hC hi) (v := .ref (gRm γ (dF f m dd 3))) rfl ?_
        refine k_aload_n (pc1 := 50) dX5_isTaken_49 rfl rfl ?_
        refine k_acmp_ne (rx := (some (gRm γ (dF f m dd 3)))) (ry := (some (gRm γ rm))) dX5_isTaken_50 rfl (tgt := 67) rfl (fun c50 : (some (gRm γ (dF f m dd 3))) ≠ (some (gRm γ rm)) => ?_) (fun c50 : (some (gRm γ (dF f m dd 3))) = (some (gRm γ rm)) => ?_)
        · skip
          refine k_iinc (a := ((i : Nat) : Int)) (pc1 := 70) dX5_isTaken_67 rfl rfl (by decide) (k_loc (L' := [some (.ref pl), some (.ref (gRm γ rm)), some (.ref s), some (va_rf lo), some (.ref (gDl γ k)), some (.int (iI (((i : Nat) : Int) + 1))), some (.ref (gDt γ (oF f m 0) dd))]) rfl ?_)
          refine k_goto dX5_isTaken_70 (tgt := 16) rfl ?_
          refine k_forget 6 (k_loc (L' := [some (.ref pl), some (.ref (gRm γ rm)), some (.ref s), some (va_rf lo), some (.ref (gDl γ k)), some (.int (iI (((i : Nat) : Int) + 1))), none]) rfl ?_)
          exact ih16 _ (by omega) (i + 1) rfl (by omega) (dn_s hC hi hx hB (fun z => by first | exact z.1.2.2 ((hlo m dd hi).mp c41) | exact c50 (congrArg some ((rp_rr hC (by omega) (by omega) hr.1 hr.2).mpr z.2.1)) | (have z2 := (bw_neg (m := m) (d := dd) (by omega) (by omega)).mpr z.2.2; omega)))
        · skip
          refine k_aload (pc1 := 55) dX5_isTaken_53 rfl rfl ?_
          refine k_get (pc1 := 58) dX5_isTaken_55 rfl fd_RX5_108 (rp_D hC hi) (v := .ref (gSt γ (oF f m 0) dd)) rfl ?_
          refine k_aload_n (pc1 := 59) dX5_isTaken_58 rfl rfl ?_
          refine k_callVP dX5_isTaken_59 rfl lk_RX5_337 o_X4_timesBetween (w_X4_timesBetween hl (rp_S hC hi) hS ⟨by omega, by omega⟩ ⟨by omega, by omega⟩ ⟨by omega, by omega⟩ ⟨by omega, by omega⟩) (as := [.ref s]) (rp_S hC hi) rfl rfl rfl rfl (by decide) (by decide) (k8 rfl) ?_
          have hbr := bw_r (f := f) (m := m) (d := dd) (t := t) (n := n) ⟨by omega, by omega⟩ ⟨by omega, by omega⟩ ⟨by omega, by omega⟩ ⟨by omega, by omega⟩
          refine k_if_ge (a := (bwF f m dd t n)) dX5_isTaken_62 rfl (tgt := 67) rfl (by omega) (fun c62 : 0 ≤ (bwF f m dd t n) => ?_) (fun c62 : (bwF f m dd t n) < 0 => ?_)
          · skip
            refine k_iinc (a := ((i : Nat) : Int)) (pc1 := 70) dX5_isTaken_67 rfl rfl (by decide) (k_loc (L' := [some (.ref pl), some (.ref (gRm γ rm)), some (.ref s), some (va_rf lo), some (.ref (gDl γ k)), some (.int (iI (((i : Nat) : Int) + 1))), some (.ref (gDt γ (oF f m 0) dd))]) rfl ?_)
            refine k_goto dX5_isTaken_70 (tgt := 16) rfl ?_
            refine k_forget 6 (k_loc (L' := [some (.ref pl), some (.ref (gRm γ rm)), some (.ref s), some (va_rf lo), some (.ref (gDl γ k)), some (.int (iI (((i : Nat) : Int) + 1))), none]) rfl ?_)
            exact ih16 _ (by omega) (i + 1) rfl (by omega) (dn_s hC hi hx hB (fun z => by first | exact z.1.2.2 ((hlo m dd hi).mp c41) | exact c50 (congrArg some ((rp_rr hC (by omega) (by omega) hr.1 hr.2).mpr z.2.1)) | (have z2 := (bw_neg (m := m) (d := dd) (by omega) (by omega)).mpr z.2.2; omega)))
          · skip
            refine k_iconst (pc1 := 66) dX5_isTaken_65 rfl ?_
            exact k_iret dX5_isTaken_66 rfl rfl (kret (kB_t ⟨m, dd, hi, ⟨ho, hk2, fun z => c41 ((hlo m dd hi).mpr z)⟩, (rp_rr hC (by omega) (by omega) hr.1 hr.2).mp (Option.some.inj c50), (bw_neg (by omega) (by omega)).mp c62⟩).symm _)
  exact hloop16 _ 0 rfl (by omega) dn_0
