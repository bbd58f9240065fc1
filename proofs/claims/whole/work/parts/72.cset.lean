/-! ===== the class: setGap, setRoom, walked ===== -/
theorem w_X5_setGap {l : Launch} {G : kG} {h : kAH} (hl : l.stackTraces = false) {pl : Nat} {γ : kGh} {A : kAb} {f : Nat → Int} (hC : kRp G h pl γ A f) {a : Int} (ra : -2147483648 ≤ a ∧ a < 2147483648) : kC l G m_X5_setGap 2 1 6 [.ref pl, .int (iI a)] h (kOy G pl γ h (TsetGap f a)) (kOn G pl γ h (TsetGap f a) ["", "java/lang/IllegalArgumentException"]) := by
  have h8 := kWf_cnt hC.2.2
  refine kC_of hl rfl rfl (Nat.le_of_ble_eq_true rfl) (L := [some (.ref pl), some (.int (iI a)), none]) rfl ?_
  refine k_iload_n (pc1 := 1) dX5_setGap_0 rfl rfl ?_
  refine k_iconst (pc1 := 2) dX5_setGap_1 rfl ?_
  refine k_iconst (pc1 := 3) dX5_setGap_2 rfl ?_
  by_cases hq3 : (0 : Int) ≤ a ∧ a ≤ 3
  · skip
    refine k_callS dX5_setGap_3 rfl rfl lk_RX5_49 o_X5_requireWithin (as := [.int (iI a), .int (iI 0), .int (iI 3)]) rfl rfl (w_rwY hl (by omega) (by decide) (by decide) hq3) (by decide) (by decide) (by decide) (by decide) (k8 rfl) (fun v h9 hv => ?_) (fun E h9 z => z.elim)
    obtain ⟨hv1, hv2⟩ := hv
    subst hv1
    rw [hv2]
    refine k_st (st' := []) rfl ?_
    refine k_aload_n (pc1 := 7) dX5_setGap_6 rfl rfl ?_
    refine k_get (pc1 := 10) dX5_setGap_7 rfl fd_RX5_32 (rp_P hC) (v := .int (iI (f 0))) rfl ?_
    refine k_istore_n (pc1 := 11) dX5_setGap_10 rfl (by decide) (k_loc (L' := [some (.ref pl), some (.int (iI a)), some (.int (iI (f 0)))]) rfl ?_)
    refine k_aload_n (pc1 := 12) dX5_setGap_11 rfl rfl ?_
    refine k_iload_n (pc1 := 13) dX5_setGap_12 rfl rfl ?_
    refine k_put (pc1 := 16) dX5_setGap_13 rfl fp_RX5_32 (Or.inl rfl) (rp_P hC) (Nat.le_of_ble_eq_true rfl) rfl rfl ?_
    obtain ⟨h41, eh41⟩ : ∃ z, z = kup h pl (.inr (9, [.ref (gRa γ), .ref (gDa γ), .ref (gMl γ), .int (iI a), .int (iI (f 2)), .int (iI (f 3)), .int (iI (f 4))])) := ⟨_, rfl⟩
    refine k_hp (h' := h41) eh41.symm ?_
    have hT41 : h41 pl = some (.inr (9, [.ref (gRa γ), .ref (gDa γ), .ref (gMl γ), .int (iI a), .int (iI (f 2)), .int (iI (f 3)), .int (iI (f 4))])) := by rw [eh41]; exact kup_same _ _ _
    have hG41 : ∀ b, b ≠ pl → h41 b = h b := fun b hb => by rw [eh41]; exact kup_ne hb
    clear eh41
    refine k_iload_n (pc1 := 17) dX5_setGap_16 rfl rfl ?_
    have hw : kWf (kiu f 0 a) := by
      have z := wf_setGap hC.2.2 a
      rw [TsetGap, kI_t (by omega)] at z
      exact z
    obtain ⟨A2, q1, q2⟩ := rp_Pc hC hw hG41 (by rw [ki_eq, ki_ne (by decide), ki_ne (by decide), ki_ne (by decide)]; exact hT41) (ki_ne (by decide)) (fun r r0 r1 => ⟨ki_ne (by omega), ki_ne (by omega)⟩) (fun m w m0 w0 => ki_oF (by decide) m0 w0)
    exact k_iret dX5_setGap_17 rfl rfl (kOy_mk (v := (f 0)) (f' := (kiu f 0 a)) (kI_t (by omega)) ⟨γ, A2, q1, q2⟩)
  · skip
    refine k_callS dX5_setGap_3 rfl rfl lk_RX5_49 o_X5_requireWithin (as := [.int (iI a), .int (iI 0), .int (iI 3)]) rfl rfl (w_rwN hl (by omega) (by decide) (by decide) hq3) (by decide) (by decide) (by decide) (by decide) (k8 rfl) (fun v h9 z => z.elim) (fun E h9 z => kx_out rfl ?_)
    obtain ⟨hv1, hv2⟩ := z
    subst hv1
    rw [hv2]
    exact (kOn_mk (c := 1) (v := 0) (f' := f) (by first | exact kI_t (by first | omega | assumption) | exact kI_f (by first | omega | assumption)) (by decide) rfl (kSt_rf hC))
theorem w_X5_setRoom {l : Launch} {G : kG} {h : kAH} (hl : l.stackTraces = false) {pl : Nat} {γ : kGh} {A : kAb} {f : Nat → Int} (hC : kRp G h pl γ A f) {a b e : Int} (ra : -2147483648 ≤ a ∧ a < 2147483648) (rb : -2147483648 ≤ b ∧ b < 2147483648) (re : -2147483648 ≤ e ∧ e < 2147483648) : kC l G m_X5_setRoom 2 1 6 [.ref pl, .int (iI a), .int (iI b), .int (iI e)] h (kOy G pl γ h (TsetRoom f a b e)) (kOn G pl γ h (TsetRoom f a b e) ["", "java/lang/IllegalArgumentException"]) := by
  have h8 := kWf_cnt hC.2.2
  refine kC_of hl rfl rfl (Nat.le_of_ble_eq_true rfl) (L := [some (.ref pl), some (.int (iI a)), some (.int (iI b)), some (.int (iI e)), none, none]) rfl ?_
  refine k_aload_n (pc1 := 1) dX5_setRoom_0 rfl rfl ?_
  refine k_iload_n (pc1 := 2) dX5_setRoom_1 rfl rfl ?_
  by_cases hr2 : 0 ≤ a ∧ a < 4
  · skip
    refine k_callVP dX5_setRoom_2 rfl lk_RX5_45 o_X5_roomWith (w_rmY hl hC ⟨by omega, by omega⟩) (as := [.int (iI a)]) (rp_P hC) rfl rfl rfl rfl (by decide) (by decide) (k8 rfl) ?_
    refine k_astore (pc1 := 7) dX5_setRoom_5 rfl (by decide) (k_loc (L' := [some (.ref pl), some (.int (iI a)), some (.int (iI b)), some (.int (iI e)), some (.ref (gRm γ a)), none]) rfl ?_)
    refine k_iload_n (pc1 := 8) dX5_setRoom_7 rfl rfl ?_
    refine k_iconst (pc1 := 9) dX5_setRoom_8 rfl ?_
    refine k_bipush 6 (pc1 := 11) dX5_setRoom_9 rfl (by decide) ?_
    by_cases hq11 : (0 : Int) ≤ b ∧ b ≤ 6
    · skip
      refine k_callS dX5_setRoom_11 rfl rfl lk_RX5_49 o_X5_requireWithin (as := [.int (iI b), .int (iI 0), .int (iI 6)]) rfl rfl (w_rwY hl (by omega) (by decide) (by decide) hq11) (by decide) (by decide) (by decide) (by decide) (k8 rfl) (fun v h9 hv => ?_) (fun E h9 z => z.elim)
      obtain ⟨hv1, hv2⟩ := hv
      subst hv1
      rw [hv2]
      refine k_st (st' := []) rfl ?_
      refine k_iload_n (pc1 := 15) dX5_setRoom_14 rfl rfl ?_
      refine k_iconst (pc1 := 16) dX5_setRoom_15 rfl ?_
      refine k_iconst (pc1 := 17) dX5_setRoom_16 rfl ?_
      by_cases hq17 : (0 : Int) ≤ e ∧ e ≤ 1
      · skip
        refine k_callS dX5_setRoom_17 rfl rfl lk_RX5_49 o_X5_requireWithin (as := [.int (iI e), .int (iI 0), .int (iI 1)]) rfl rfl (w_rwY hl (by omega) (by decide) (by decide) hq17) (by decide) (by decide) (by decide) (by decide) (k8 rfl) (fun v h9 hv => ?_) (fun E h9 z => z.elim)
        obtain ⟨hv1, hv2⟩ := hv
        subst hv1
        rw [hv2]
        refine k_st (st' := []) rfl ?_
        refine k_aload (pc1 := 22) dX5_setRoom_20 rfl rfl ?_
        refine k_get (pc1 := 25) dX5_setRoom_22 rfl fd_RX5_52 (rp_R hC (r := a) (by omega) (by omega)) (v := .int (iI (f (5 + a).toNat))) rfl ?_
        refine k_istore (pc1 := 27) dX5_setRoom_25 rfl (by decide) (k_loc (L' := [some (.ref pl), some (.int (iI a)), some (.int (iI b)), some (.int (iI e)), some (.ref (gRm γ a)), some (.int (iI (f (5 + a).toNat)))]) rfl ?_)
        refine k_aload (pc1 := 29) dX5_setRoom_27 rfl rfl ?_
        refine k_iload_n (pc1 := 30) dX5_setRoom_29 rfl rfl ?_
        refine k_put (pc1 := 33) dX5_setRoom_30 rfl fp_RX5_52 (Or.inl rfl) (rp_R hC (r := a) (by omega) (by omega)) (Nat.le_of_ble_eq_true rfl) rfl rfl ?_
        obtain ⟨h42, eh42⟩ : ∃ z, z = kup h (gRm γ a) (.inr (7, [.int (iI a), .int (iI b), .int (iI (f (9 + a).toNat))])) := ⟨_, rfl⟩
        refine k_hp (h' := h42) eh42.symm ?_
        have hT42 : h42 (gRm γ a) = some (.inr (7, [.int (iI a), .int (iI b), .int (iI (f (9 + a).toNat))])) := by rw [eh42]; exact kup_same _ _ _
        have hG42 : ∀ b, b ≠ (gRm γ a) → h42 b = h b := fun b hb => by rw [eh42]; exact kup_ne hb
        clear eh42
        refine k_aload (pc1 := 35) dX5_setRoom_33 rfl rfl ?_
        refine k_iload_n (pc1 := 36) dX5_setRoom_35 rfl rfl ?_
        refine k_put (pc1 := 39) dX5_setRoom_36 rfl fp_RX5_55 (Or.inl rfl) hT42 (Nat.le_of_ble_eq_true rfl) rfl rfl ?_
        obtain ⟨h43, eh43⟩ : ∃ z, z = kup h42 (gRm γ a) (.inr (7, [.int (iI a), .int (iI b), .int (iI e)])) := ⟨_, rfl⟩
        refine k_hp (h' := h43) eh43.symm ?_
        have hT43 : h43 (gRm γ a) = some (.inr (7, [.int (iI a), .int (iI b), .int (iI e)])) := by rw [eh43]; exact kup_same _ _ _
        have hG43 : ∀ b, b ≠ (gRm γ a) → h43 b = h b := fun b hb => by rw [eh43]; exact (kup_ne hb).trans (hG42 b hb)
        clear eh43
        refine k_iload (pc1 := 41) dX5_setRoom_39 rfl rfl ?_
        have hw : kWf (kiu (kiu f (5 + a).toNat b) (9 + a).toNat e) := by
          have z := wf_setRoom hC.2.2 a b e
          rw [TsetRoom, kI_t (by omega)] at z
          exact z
        obtain ⟨A2, q1, q2⟩ := rp_Rc (r := a) (s := b) (x := e) hC hw (by omega) (by omega) hG43 hT43 ⟨by rw [ki_ne (by omega), ki_ne (by omega)], by rw [ki_ne (by omega), ki_ne (by omega)], by rw [ki_ne (by omega), ki_ne (by omega)], by rw [ki_ne (by omega), ki_ne (by omega)]⟩ (by rw [ki_ne (by omega), ki_ne (by omega)]) (fun i i0 i1 => ⟨by unfold kiu; (repeat' split) <;> first | rfl | omega, by unfold kiu; (repeat' split) <;> first | rfl | omega⟩) (fun m w m0 w0 => by rw [ki_oF (by omega) m0 w0, ki_oF (by omega) m0 w0])
        exact k_iret dX5_setRoom_41 rfl rfl (kOy_mk (v := (f (5 + a).toNat)) (f' := (kiu (kiu f (5 + a).toNat b) (9 + a).toNat e)) (kI_t (by omega)) ⟨γ, A2, q1, q2⟩)
      · skip
        refine k_callS dX5_setRoom_17 rfl rfl lk_RX5_49 o_X5_requireWithin (as := [.int (iI e), .int (iI 0), .int (iI 1)]) rfl rfl (w_rwN hl (by omega) (by decide) (by decide) hq17) (by decide) (by decide) (by decide) (by decide) (k8 rfl) (fun v h9 z => z.elim) (fun E h9 z => kx_out rfl ?_)
        obtain ⟨hv1, hv2⟩ := z
        subst hv1
        rw [hv2]
        exact (kOn_mk (c := 1) (v := 0) (f' := f) (by first | exact kI_t (by first | omega | assumption) | exact kI_f (by first | omega | assumption)) (by decide) rfl (kSt_rf hC))
    · skip
      refine k_callS dX5_setRoom_11 rfl rfl lk_RX5_49 o_X5_requireWithin (as := [.int (iI b), .int (iI 0), .int (iI 6)]) rfl rfl (w_rwN hl (by omega) (by decide) (by decide) hq11) (by decide) (by decide) (by decide) (by decide) (k8 rfl) (fun v h9 z => z.elim) (fun E h9 z => kx_out rfl ?_)
      obtain ⟨hv1, hv2⟩ := z
      subst hv1
      rw [hv2]
      exact (kOn_mk (c := 1) (v := 0) (f' := f) (by first | exact kI_t (by first | omega | assumption) | exact kI_f (by first | omega | assumption)) (by decide) rfl (kSt_rf hC))
  · skip
    refine k_callV dX5_setRoom_2 rfl lk_RX5_45 o_X5_roomWith (as := [.int (iI a)]) rfl rfl (rp_P hC) rfl rfl (w_rmN hl hC (by omega) (by omega)) (by decide) (by decide) (by decide) (by decide) (k8 rfl) (fun v h9 z => z.elim) (fun E h9 z => kx_out rfl ?_)
    obtain ⟨hv1, hv2⟩ := z
    subst hv1
    rw [hv2]
    exact (kOn_mk (c := 1) (v := 0) (f' := f) (by first | exact kI_t (by first | omega | assumption) | exact kI_f (by first | omega | assumption)) (by decide) rfl (kSt_rf hC))
