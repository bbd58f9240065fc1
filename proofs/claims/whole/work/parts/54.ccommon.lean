/-! ===== the class: common times, walked ===== -/
theorem bp_iff {f : Nat → Int} {wm wd : Int} {q : Nat} {k t n : Int} : ((kan (bpF f wm wd k t n) q : Nat) : Int) ≠ 0 ↔ 0 ≤ bsyF f wm wd q k t n := by
  rw [kand_ne (a := bpF f wm wd k t n) (kmk_lt _ 6)]
  unfold bsyF
  rcases kls_spec (fun p => q.testBit p = true ∧ bsP f wm wd k t n (p : Int)) 6 with ⟨h1, h2⟩ | ⟨i, h1, h2, h3, -⟩
  · rw [h1]
    exact ⟨fun ⟨p, hp, a, b⟩ => absurd ⟨b, ((kmk_bit _ 6 p).mp a).2⟩ (h2 p hp), fun z => absurd z (by decide)⟩
  · rw [h1]
    exact ⟨fun _ => by omega, fun _ => ⟨i, h2, (kmk_bit _ 6 i).mpr ⟨h2, h3.2⟩, h3.1⟩⟩
theorem w_comR {l : Launch} {G : kG} {h : kAH} (hl : l.stackTraces = false) {pl : Nat} {γ : kGh} {A : kAb} {f : Nat → Int} (hC : kRp G h pl γ A f) {qq : Nat} (hqq : qq < 64) {s : Nat} {k t n : Int} (hS : h s = some (.inr (8, [.int (iI k), .int (iI t), .int (iI n)]))) (hk : 0 ≤ k ∧ k < 28) (ht : 0 ≤ t ∧ t < 16) (hn : 1 ≤ n ∧ n ≤ 6) : kC l G m_X5_commonRoom 6 0 0 [.ref pl, .int (iI ((qq : Nat) : Int)), .ref s] h (kPq (va_rf (brF γ (rmF f qq k t n))) h) kNo := by
  refine kC_of hl rfl rfl (Nat.le_of_ble_eq_true rfl) (L := [some (.ref pl), some (.int (iI ((qq : Nat) : Int))), some (.ref s)]) rfl ?_
  refine k_aload_n (pc1 := 1) dX5_commonRoom_0 rfl rfl ?_
  refine k_aload_n (pc1 := 2) dX5_commonRoom_1 rfl rfl ?_
  refine k_null (pc1 := 3) dX5_commonRoom_2 rfl ?_
  refine k_callVP dX5_commonRoom_3 rfl lk_RX5_304 o_X5_busyPeople (w_busyP hl hC hS ⟨by omega, by omega⟩ ⟨by omega, by omega⟩ ⟨by omega, by omega⟩ (lo := none) kLv_none) (as := [.ref s, .null]) (rp_P hC) rfl rfl rfl rfl (by decide) (by decide) (k8 rfl) ?_
  refine k_iload_n (pc1 := 7) dX5_commonRoom_6 rfl rfl ?_
  refine k_iand (pc1 := 8) dX5_commonRoom_7 rfl (k_val (v' := .int (iI (((kan (bpF f (-1) (-1) k t n) qq) : Nat) : Int))) (congrArg Value.int iI_and) ?_)
  have hkl : kan (bpF f (-1) (-1) k t n) qq < 64 := kan_lt (kmk_lt _ 6)
  refine k_if_eq (a := (((kan (bpF f (-1) (-1) k t n) qq) : Nat) : Int)) dX5_commonRoom_8 rfl (tgt := 15) rfl (by omega) (fun c8 : (((kan (bpF f (-1) (-1) k t n) qq) : Nat) : Int) = 0 => ?_) (fun c8 : (((kan (bpF f (-1) (-1) k t n) qq) : Nat) : Int) ≠ 0 => ?_)
  · skip
    refine k_aload_n (pc1 := 16) dX5_commonRoom_15 rfl rfl ?_
    refine k_iload_n (pc1 := 17) dX5_commonRoom_16 rfl rfl ?_
    refine k_aload_n (pc1 := 18) dX5_commonRoom_17 rfl rfl ?_
    refine k_null (pc1 := 19) dX5_commonRoom_18 rfl ?_
    refine k_callVP dX5_commonRoom_19 rfl lk_RX5_323 o_X5_bestRoom (w_bestR hl hC (qq := qq) (by first | omega | exact kmk_lt _ 6 | exact exM_lt ⟨by omega, by omega⟩ (by first | omega | exact kmk_lt _ 6) | assumption) hS ⟨by omega, by omega⟩ ⟨by omega, by omega⟩ ⟨by omega, by omega⟩ (lo := none) kLv_none) (as := [.int (iI ((qq : Nat) : Int)), .ref s, .null]) (rp_P hC) rfl rfl rfl rfl (by decide) (by decide) (k8 rfl) ?_
    refine k_aret dX5_commonRoom_22 rfl (Or.inl ⟨_, rfl⟩) ?_ ⟨by rw [rmF, kI_f (fun z => (bp_iff.mpr z) c8)], rfl⟩
    cases (brF γ (smlF f (-1) (-1) qq k t n)) with
    | none => exact Or.inl rfl
    | some x => exact Or.inr ⟨x, rfl⟩
  · skip
    refine k_null (pc1 := 12) dX5_commonRoom_11 rfl ?_
    refine k_goto dX5_commonRoom_12 (tgt := 22) rfl ?_
    exact k_aret dX5_commonRoom_22 rfl (Or.inl ⟨_, rfl⟩) (Or.inl rfl) ⟨by rw [rmF, kI_t (bp_iff.mp c8)]; rfl, rfl⟩
theorem w_slotI {l : Launch} {G : kG} {h : kAH} (hl : l.stackTraces = false) {a : Nat} {k t n : Int} (hA : h a = some (.inr (8, [.int (iI 0), .int (iI 0), .int (iI 0)]))) : kC l G m_X4_init 1 0 0 [.ref a, .int (iI k), .int (iI t), .int (iI n)] h (fun v h' => v = none ∧ h' a = some (.inr (8, [.int (iI k), .int (iI t), .int (iI n)])) ∧ ∀ b, b ≠ a → h' b = h b) kNo := by
  refine kC_of hl rfl rfl (Nat.le_of_ble_eq_true rfl) (L := [some (.ref a), some (.int (iI k)), some (.int (iI t)), some (.int (iI n))]) rfl ?_
  refine k_aload_n (pc1 := 1) dX4_init_0 rfl rfl ?_
  refine k_objInit (pc1 := 4) dX4_init_1 rfl lk_RX4_1 oi_inst oi_code (k8 rfl) ?_
  refine k_aload_n (pc1 := 5) dX4_init_4 rfl rfl ?_
  refine k_iload_n (pc1 := 6) dX4_init_5 rfl rfl ?_
  refine k_put (pc1 := 9) dX4_init_6 rfl fp_RX4_7 (Or.inl rfl) hA (Nat.le_of_ble_eq_true rfl) rfl rfl ?_
  obtain ⟨h35, eh35⟩ : ∃ z, z = kup h a (.inr (8, [.int (iI k), .int (iI 0), .int (iI 0)])) := ⟨_, rfl⟩
  refine k_hp (h' := h35) eh35.symm ?_
  have hA35 : h35 a = some (.inr (8, [.int (iI k), .int (iI 0), .int (iI 0)])) := by rw [eh35]; exact kup_same _ _ _
  have hfr35 : ∀ b, b ≠ a → h35 b = h b := fun b hb => by rw [eh35]; exact kup_ne hb
  clear eh35
  refine k_aload_n (pc1 := 10) dX4_init_9 rfl rfl ?_
  refine k_iload_n (pc1 := 11) dX4_init_10 rfl rfl ?_
  refine k_put (pc1 := 14) dX4_init_11 rfl fp_RX4_13 (Or.inl rfl) hA35 (Nat.le_of_ble_eq_true rfl) rfl rfl ?_
  obtain ⟨h36, eh36⟩ : ∃ z, z = kup h35 a (.inr (8, [.int (iI k), .int (iI t), .int (iI 0)])) := ⟨_, rfl⟩
  refine k_hp (h' := h36) eh36.symm ?_
  have hA36 : h36 a = some (.inr (8, [.int (iI k), .int (iI t), .int (iI 0)])) := by rw [eh36]; exact kup_same _ _ _
  have hfr36 : ∀ b, b ≠ a → h36 b = h35 b := fun b hb => by rw [eh36]; exact kup_ne hb
  clear eh36
  refine k_aload_n (pc1 := 15) dX4_init_14 rfl rfl ?_
  refine k_iload_n (pc1 := 16) dX4_init_15 rfl rfl ?_
  refine k_put (pc1 := 19) dX4_init_16 rfl fp_RX4_16 (Or.inr rfl) hA36 (Nat.le_of_ble_eq_true rfl) rfl rfl ?_
  obtain ⟨h37, eh37⟩ : ∃ z, z = kup h36 a (.inr (8, [.int (iI k), .int (iI t), .int (iI n)])) := ⟨_, rfl⟩
  refine k_hp (h' := h37) eh37.symm ?_
  have hA37 : h37 a = some (.inr (8, [.int (iI k), .int (iI t), .int (iI n)])) := by rw [eh37]; exact kup_same _ _ _
  have hfr37 : ∀ b, b ≠ a → h37 b = h36 b := fun b hb => by rw [eh37]; exact kup_ne hb
  clear eh37
  exact k_vret dX4_init_19 rfl ⟨rfl, hA37, fun b hb => (hfr37 b hb).trans ((hfr36 b hb).trans (hfr35 b hb))⟩
theorem w_X5_roomFor {l : Launch} {G : kG} {h : kAH} (hl : l.stackTraces = false) {pl : Nat} {γ : kGh} {A : kAb} {f : Nat → Int} (hC : kRp G h pl γ A f) {a n k t : Int} (ra : -2147483648 ≤ a ∧ a < 2147483648) (rn : -2147483648 ≤ n ∧ n < 2147483648) (rk : -2147483648 ≤ k ∧ k < 2147483648) (rt : -2147483648 ≤ t ∧ t < 2147483648) : kC l G m_X5_roomFor 7 3 30 [.ref pl, .int (iI a), .int (iI n), .int (iI k), .int (iI t)] h (kOy G pl γ h (TroomFor f a n k t)) (kOn G pl γ h (TroomFor f a n k t) ["", "java/lang/IllegalArgumentException", "java/util/NoSuchElementException"]) := by
  have h8 := kWf_cnt hC.2.2
  refine kC_of hl rfl rfl (Nat.le_of_ble_eq_true rfl) (L := [some (.ref pl), some (.int (iI a)), some (.int (iI n)), some (.int (iI k)), some (.int (iI t)), none]) rfl ?_
  refine k_iload_n (pc1 := 1) dX5_roomFor_0 rfl rfl ?_
  refine k_iconst (pc1 := 2) dX5_roomFor_1 rfl ?_
  refine k_bipush 63 (pc1 := 4) dX5_roomFor_2 rfl (by decide) ?_
  by_cases hq4 : (1 : Int) ≤ a ∧ a ≤ 63
  · skip
    refine k_callS dX5_roomFor_4 rfl rfl lk_RX5_49 o_X5_requireWithin (as := [.int (iI a), .int (iI 1), .int (iI 63)]) rfl rfl (w_rwY hl (by omega) (by decide) (by decide) hq4) (by decide) (by decide) (by decide) (by decide) (k8 rfl) (fun v h9 hv => ?_) (fun E h9 z => z.elim)
    obtain ⟨hv1, hv2⟩ := hv
    subst hv1
    rw [hv2]
    refine k_st (st' := []) rfl ?_
    refine k_iload_n (pc1 := 8) dX5_roomFor_7 rfl rfl ?_
    refine k_iload (pc1 := 10) dX5_roomFor_8 rfl rfl ?_
    refine k_iload_n (pc1 := 11) dX5_roomFor_10 rfl rfl ?_
    by_cases hq11 : 0 ≤ k ∧ k ≤ 27 ∧ 0 ≤ t ∧ t ≤ 15 ∧ 1 ≤ n ∧ n ≤ 6 ∧ t + n ≤ 16
    · skip
      refine k_callS dX5_roomFor_11 rfl rfl lk_RX5_62 o_X5_requireSlot (as := [.int (iI k), .int (iI t), .int (iI n)]) rfl rfl (w_rsY hl (by omega) (by omega) (by omega) hq11) (by decide) (by decide) (by decide) (by decide) (k8 rfl) (fun v h9 hv => ?_) (fun E h9 z => z.elim)
      obtain ⟨hv1, hv2⟩ := hv
      subst hv1
      rw [hv2]
      refine k_st (st' := []) rfl ?_
      have hq9 : a.toNat < 64 := by omega
      refine k_loc (L' := [some (.ref pl), some (.int (iI ((a.toNat : Nat) : Int))), some (.int (iI n)), some (.int (iI k)), some (.int (iI t)), none]) (by rw [Int.toNat_of_nonneg (by omega)]) ?_
      refine k_aload_n (pc1 := 15) dX5_roomFor_14 rfl rfl ?_
      refine k_iload_n (pc1 := 16) dX5_roomFor_15 rfl rfl ?_
      have hC0 := hC
      refine k_new (pc1 := 19) dX5_roomFor_16 rfl nw_RX5_83 (by decide) (by decide) (fun q hq => ?_)
      refine k_dup (pc1 := 20) dX5_roomFor_19 rfl rfl ?_
      refine k_iload_n (pc1 := 21) dX5_roomFor_20 rfl rfl ?_
      refine k_iload (pc1 := 23) dX5_roomFor_21 rfl rfl ?_
      refine k_iload_n (pc1 := 24) dX5_roomFor_23 rfl rfl ?_
      refine k_callI dX5_roomFor_24 rfl lk_RX5_85 o_X4_init (as := [.int (iI k), .int (iI t), .int (iI n)]) rfl rfl (w_slotI hl (kup_same _ _ _)) (fun E h9 z => z.elim) (by decide) (by decide) (by decide) (by decide) (k8 rfl) (fun v h1 hv => ?_)
      obtain ⟨hv1, hS, hv3⟩ := hv
      subst hv1
      refine k_st (st' := [.ref q, .int (iI ((a.toNat : Nat) : Int)), .ref pl]) rfl ?_
      have hfq : ∀ b, b ≠ q → h1 b = h b := fun b hb => (hv3 b hb).trans (kup_ne hb)
      have hX : kXt h h1 := fun b e z => (hfq b (kne_new z hq)).trans z
      replace hC := kRp_xt hX hC
      clear hv3
      refine k_callVP dX5_roomFor_27 rfl lk_RX5_234 o_X5_commonRoom (w_comR hl hC (qq := a.toNat) (by omega) hS ⟨by omega, by omega⟩ ⟨by omega, by omega⟩ ⟨by omega, by omega⟩) (as := [.int (iI ((a.toNat : Nat) : Int)), .ref q]) (rp_P hC) rfl rfl rfl rfl (by decide) (by decide) (k8 rfl) ?_
      have hrr := rmF_r f a.toNat k t n
      by_cases hrm : (rmF f a.toNat k t n) < 0
      · skip
        refine k_val (v' := .null) (by rw [brF, if_pos hrm]; rfl) ?_
        refine k_astoreN (pc1 := 32) dX5_roomFor_30 rfl (by decide) (k_loc (L' := [some (.ref pl), some (.int (iI ((a.toNat : Nat) : Int))), some (.int (iI n)), some (.int (iI k)), some (.int (iI t)), some (.null)]) rfl ?_)
        refine k_aloadN (pc1 := 34) dX5_roomFor_32 rfl rfl ?_
        refine k_ifnonnullN (pc1 := 37) dX5_roomFor_34 rfl ?_
        exact k_throwX 40 41 43 46 rfl nse_0 nse_1 nse_2 nse_5 rfl dX5_roomFor_37 dX5_roomFor_40 dX5_roomFor_41 dX5_roomFor_43 dX5_roomFor_46 rfl rfl rfl rfl rfl (by decide) (by decide) cl_RX5_198 ini_NoSuchElementException (text := "they cannot meet then") (by decide +kernel) ax_RX5_202 (k8 rfl) (by decide) (by decide) (kOn_mk (c := 2) (v := 0) (f' := f) (by unfold TroomFor; first | exact kI_f (by omega) | exact (kI_t (by omega)).trans (kI_t (by omega)) | exact (kI_t (by omega)).trans (kI_f (by omega))) (by decide) rfl (kSt_xt hX hC0))
      · skip
        refine k_val (v' := .ref (gRm γ (rmF f a.toNat k t n))) (by rw [brF, if_neg hrm]; rfl) ?_
        refine k_astore (pc1 := 32) dX5_roomFor_30 rfl (by decide) (k_loc (L' := [some (.ref pl), some (.int (iI ((a.toNat : Nat) : Int))), some (.int (iI n)), some (.int (iI k)), some (.int (iI t)), some (.ref (gRm γ (rmF f a.toNat k t n)))]) rfl ?_)
        refine k_aload (pc1 := 34) dX5_roomFor_32 rfl rfl ?_
        refine k_ifnonnull dX5_roomFor_34 (tgt := 47) rfl ?_
        refine k_aload (pc1 := 49) dX5_roomFor_47 rfl rfl ?_
        refine k_get (pc1 := 52) dX5_roomFor_49 rfl fd_RX5_197 (rp_R hC (r := (rmF f a.toNat k t n)) (by omega) (by omega)) (v := .int (iI (rmF f a.toNat k t n))) rfl ?_
        exact k_iret dX5_roomFor_52 rfl rfl (kOy_mk (v := (rmF f a.toNat k t n)) (f' := f) (by unfold TroomFor; first | exact kI_f (by omega) | exact (kI_t (by omega)).trans (kI_t (by omega)) | exact (kI_t (by omega)).trans (kI_f (by omega))) (kSt_xt hX hC0))
    · skip
      refine k_callS dX5_roomFor_11 rfl rfl lk_RX5_62 o_X5_requireSlot (as := [.int (iI k), .int (iI t), .int (iI n)]) rfl rfl (w_rsN hl (by omega) (by omega) (by omega) hq11) (by decide) (by decide) (by decide) (by decide) (k8 rfl) (fun v h9 z => z.elim) (fun E h9 z => kx_out rfl ?_)
      obtain ⟨hv1, hv2⟩ := z
      subst hv1
      rw [hv2]
      exact (kOn_mk (c := 1) (v := 0) (f' := f) (by unfold TroomFor; first | exact kI_f (by omega) | exact (kI_t (by omega)).trans (kI_t (by omega)) | exact (kI_t (by omega)).trans (kI_f (by omega))) (by decide) rfl (kSt_rf hC))
  · skip
    refine k_callS dX5_roomFor_4 rfl rfl lk_RX5_49 o_X5_requireWithin (as := [.int (iI a), .int (iI 1), .int (iI 63)]) rfl rfl (w_rwN hl (by omega) (by decide) (by decide) hq4) (by decide) (by decide) (by decide) (by decide) (k8 rfl) (fun v h9 z => z.elim) (fun E h9 z => kx_out rfl ?_)
    obtain ⟨hv1, hv2⟩ := z
    subst hv1
    rw [hv2]
    exact (kOn_mk (c := 1) (v := 0) (f' := f) (by unfold TroomFor; first | exact kI_f (by omega) | exact (kI_t (by omega)).trans (kI_t (by omega)) | exact (kI_t (by omega)).trans (kI_f (by omega))) (by decide) rfl (kSt_rf hC))
theorem w_X5_commonCount {l : Launch} {G : kG} {h : kAH} (hl : l.stackTraces = false) {pl : Nat} {γ : kGh} {A : kAb} {f : Nat → Int} (hC : kRp G h pl γ A f) {a n k : Int} (ra : -2147483648 ≤ a ∧ a < 2147483648) (rn : -2147483648 ≤ n ∧ n < 2147483648) (rk : -2147483648 ≤ k ∧ k < 2147483648) : kC l G m_X5_commonCount 7 3 30 [.ref pl, .int (iI a), .int (iI n), .int (iI k)] h (kOy G pl γ h (TcommonCount f a n k)) (kOn G pl γ h (TcommonCount f a n k) ["", "java/lang/IllegalArgumentException"]) := by
  have h8 := kWf_cnt hC.2.2
  refine kC_of hl rfl rfl (Nat.le_of_ble_eq_true rfl) (L := [some (.ref pl), some (.int (iI a)), some (.int (iI n)), some (.int (iI k)), none, none, none]) rfl ?_
  refine k_iload_n (pc1 := 1) dX5_commonCount_0 rfl rfl ?_
  refine k_iconst (pc1 := 2) dX5_commonCount_1 rfl ?_
  refine k_bipush 63 (pc1 := 4) dX5_commonCount_2 rfl (by decide) ?_
  by_cases hq4 : (1 : Int) ≤ a ∧ a ≤ 63
  · skip
    refine k_callS dX5_commonCount_4 rfl rfl lk_RX5_49 o_X5_requireWithin (as := [.int (iI a), .int (iI 1), .int (iI 63)]) rfl rfl (w_rwY hl (by omega) (by decide) (by decide) hq4) (by decide) (by decide) (by decide) (by decide) (k8 rfl) (fun v h9 hv => ?_) (fun E h9 z => z.elim)
    obtain ⟨hv1, hv2⟩ := hv
    subst hv1
    rw [hv2]
    refine k_st (st' := []) rfl ?_
    refine k_iload_n (pc1 := 8) dX5_commonCount_7 rfl rfl ?_
    refine k_iconst (pc1 := 9) dX5_commonCount_8 rfl ?_
    refine k_iload_n (pc1 := 10) dX5_commonCount_9 rfl rfl ?_
    by_cases hq10 : 0 ≤ k ∧ k ≤ 27 ∧ 0 ≤ (0 : Int) ∧ (0 : Int) ≤ 15 ∧ 1 ≤ n ∧ n ≤ 6 ∧ (0 : Int) + n ≤ 16
    · skip
      refine k_callS dX5_commonCount_10 rfl rfl lk_RX5_62 o_X5_requireSlot (as := [.int (iI k), .int (iI 0), .int (iI n)]) rfl rfl (w_rsY hl (by omega) (by decide) (by omega) hq10) (by decide) (by decide) (by decide) (by decide) (k8 rfl) (fun v h9 hv => ?_) (fun E h9 z => z.elim)
      obtain ⟨hv1, hv2⟩ := hv
      subst hv1
      rw [hv2]
      refine k_st (st' := []) rfl ?_
      have hC0 := hC
      refine k_new (pc1 := 16) dX5_commonCount_13 rfl nw_RX5_83 (by decide) (by decide) (fun q hq => ?_)
      refine k_dup (pc1 := 17) dX5_commonCount_16 rfl rfl ?_
      refine k_iload_n (pc1 := 18) dX5_commonCount_17 rfl rfl ?_
      refine k_iconst (pc1 := 19) dX5_commonCount_18 rfl ?_
      refine k_iload_n (pc1 := 20) dX5_commonCount_19 rfl rfl ?_
      refine k_callI dX5_commonCount_20 rfl lk_RX5_85 o_X4_init (as := [.int (iI k), .int (iI 0), .int (iI n)]) rfl rfl (w_slotI hl (kup_same _ _ _)) (fun E h9 z => z.elim) (by decide) (by decide) (by decide) (by decide) (k8 rfl) (fun v h1 hv => ?_)
      obtain ⟨hv1, hS, hv3⟩ := hv
      subst hv1
      refine k_st (st' := [.ref q]) rfl ?_
      have hfq : ∀ b, b ≠ q → h1 b = h b := fun b hb => (hv3 b hb).trans (kup_ne hb)
      have hX : kXt h h1 := fun b e z => (hfq b (kne_new z hq)).trans z
      replace hC := kRp_xt hX hC
      clear hv3
      refine k_astore (pc1 := 25) dX5_commonCount_23 rfl (by decide) (k_loc (L' := [some (.ref pl), some (.int (iI a)), some (.int (iI n)), some (.int (iI k)), some (.ref q), none, none]) rfl ?_)
      have hq9 : a.toNat < 64 := by omega
      refine k_loc (L' := [some (.ref pl), some (.int (iI ((a.toNat : Nat) : Int))), some (.int (iI n)), some (.int (iI k)), some (.ref q), none, none]) (by rw [Int.toNat_of_nonneg (by omega)]) ?_
      refine k_iconst (pc1 := 26) dX5_commonCount_25 rfl ?_
      refine k_istore (pc1 := 28) dX5_commonCount_26 rfl (by decide) (k_loc (L' := [some (.ref pl), some (.int (iI ((a.toNat : Nat) : Int))), some (.int (iI n)), some (.int (iI k)), some (.ref q), some (.int (iI 0)), none]) rfl ?_)
      refine k_iconst (pc1 := 29) dX5_commonCount_28 rfl ?_
      refine k_istore (pc1 := 31) dX5_commonCount_29 rfl (by decide) (k_loc (L' := [some (.ref pl), some (.int (iI ((a.toNat : Nat) : Int))), some (.int (iI n)), some (.int (iI k)), some (.ref q), some (.int (iI 0)), some (.int (iI 0))]) rfl ?_)
      have hloop31 : ∀ (zz : Nat) (i : Nat) (h5 : kAH) (t0 : Int), zz = 17 - i → ((i : Int) ≤ 17 - n) → (h5 q = some (.inr (8, [.int (iI k), .int (iI t0), .int (iI n)]))) → (∀ b, b ≠ q → h5 b = h b) → kW l G m_X5_commonCount 7 (kOy G pl γ h (TcommonCount f a n k)) (kOn G pl γ h (TcommonCount f a n k) ["", "java/lang/IllegalArgumentException"]) 2 27 31 [some (.ref pl), some (.int (iI ((a.toNat : Nat) : Int))), some (.int (iI n)), some (.int (iI k)), some (.ref q), some (.int (iI (ksm (fun t => kB (0 ≤ rmF f a.toNat k (t : Int) n)) i))), some (.int (iI ((i : Nat) : Int)))] [] h5 := by
        intro zz
        induction zz using Nat.strongRecOn with
        | ind zz ih31 =>
        intro i h5 t0 hr31 hi9 hS5 hfq
        have hX : kXt h h5 := fun b e z => (hfq b (kne_new z hq)).trans z
        replace hC := kRp_xt hX hC0
        refine k_iload (pc1 := 33) dX5_commonCount_31 rfl rfl ?_
        refine k_bipush 16 (pc1 := 35) dX5_commonCount_33 rfl (by decide) ?_
        refine k_iload_n (pc1 := 36) dX5_commonCount_35 rfl rfl ?_
        refine k_isub (a := 16) (b := n) (pc1 := 37) dX5_commonCount_36 rfl ?_
        refine k_icmp_gt (a := ((i : Nat) : Int)) (b := (16 - n)) dX5_commonCount_37 rfl (tgt := 66) rfl (by omega) (by omega) (fun c37 : (16 - n) < ((i : Nat) : Int) => ?_) (fun c37 : ((i : Nat) : Int) ≤ (16 - n) => ?_)
        · skip
          refine k_iload (pc1 := 68) dX5_commonCount_66 rfl rfl ?_
          exact k_iret dX5_commonCount_68 rfl rfl (kOy_mk (v := (ksm (fun t => kB (0 ≤ rmF f a.toNat k (t : Int) n)) i)) (f' := f) (by have e : (17 - n).toNat = i := (by omega); unfold TcommonCount; rw [kI_t (by omega), e]) (kSt_xt hX hC0))
        · skip
          refine k_aload (pc1 := 42) dX5_commonCount_40 rfl rfl ?_
          refine k_iload (pc1 := 44) dX5_commonCount_42 rfl rfl ?_
          refine k_put (pc1 := 47) dX5_commonCount_44 rfl fp_RX5_122 (Or.inl rfl) hS5 (Nat.le_of_ble_eq_true rfl) rfl rfl ?_
          obtain ⟨h38, eh38⟩ : ∃ z, z = kup h5 q (.inr (8, [.int (iI k), .int (iI ((i : Nat) : Int)), .int (iI n)])) := ⟨_, rfl⟩
          refine k_hp (h' := h38) eh38.symm ?_
          have hS38 : h38 q = some (.inr (8, [.int (iI k), .int (iI ((i : Nat) : Int)), .int (iI n)])) := by rw [eh38]; exact kup_same _ _ _
          replace hfq : ∀ b, b ≠ q → h38 b = h b := fun b hb => (by rw [eh38]; exact (kup_ne hb).trans (hfq b hb))
          clear eh38
          have hX : kXt h h38 := fun b e z => (hfq b (kne_new z hq)).trans z
          replace hC := kRp_xt hX hC0
          refine k_aload_n (pc1 := 48) dX5_commonCount_47 rfl rfl ?_
          refine k_iload_n (pc1 := 49) dX5_commonCount_48 rfl rfl ?_
          refine k_aload (pc1 := 51) dX5_commonCount_49 rfl rfl ?_
          refine k_callVP dX5_commonCount_51 rfl lk_RX5_234 o_X5_commonRoom (w_comR hl hC (qq := a.toNat) (by omega) hS38 ⟨by omega, by omega⟩ ⟨by omega, by omega⟩ ⟨by omega, by omega⟩) (as := [.int (iI ((a.toNat : Nat) : Int)), .ref q]) (rp_P hC) rfl rfl rfl rfl (by decide) (by decide) (k8 rfl) ?_
          have hrr := rmF_r f a.toNat k ((i : Nat) : Int) n
          by_cases hrm : (rmF f a.toNat k ((i : Nat) : Int) n) < 0
          · skip
            refine k_val (v' := .null) (by rw [brF, if_pos hrm]; rfl) ?_
            refine k_ifnullN dX5_commonCount_54 (tgt := 60) rfl ?_
            refine k_iinc (a := ((i : Nat) : Int)) (pc1 := 63) dX5_commonCount_60 rfl rfl (by decide) (k_loc (L' := [some (.ref pl), some (.int (iI ((a.toNat : Nat) : Int))), some (.int (iI n)), some (.int (iI k)), some (.ref q), some (.int (iI (ksm (fun t => kB (0 ≤ rmF f a.toNat k (t : Int) n)) i))), some (.int (iI (((i : Nat) : Int) + 1)))]) rfl ?_)
            refine k_goto dX5_commonCount_63 (tgt := 31) rfl ?_
            have e : (ksm (fun t => kB (0 ≤ rmF f a.toNat k (t : Int) n)) (i + 1)) = (ksm (fun t => kB (0 ≤ rmF f a.toNat k (t : Int) n)) i) := (congrArg (fun z => (ksm (fun t => kB (0 ≤ rmF f a.toNat k (t : Int) n)) i) + z) (kB_f (by omega))).trans (Int.add_zero _)
            refine k_loc (L' := [some (.ref pl), some (.int (iI ((a.toNat : Nat) : Int))), some (.int (iI n)), some (.int (iI k)), some (.ref q), some (.int (iI (ksm (fun t => kB (0 ≤ rmF f a.toNat k (t : Int) n)) (i + 1)))), some (.int (iI (((i : Nat) : Int) + 1)))]) (by rw [e]) ?_
            exact ih31 _ (by omega) (i + 1) h38 _ rfl (by omega) hS38 hfq
          · skip
            refine k_val (v' := .ref (gRm γ (rmF f a.toNat k ((i : Nat) : Int) n))) (by rw [brF, if_neg hrm]; rfl) ?_
            refine k_ifnull (pc1 := 57) dX5_commonCount_54 rfl ?_
            refine k_iinc (a := (ksm (fun t => kB (0 ≤ rmF f a.toNat k (t : Int) n)) i)) (pc1 := 60) dX5_commonCount_57 rfl rfl (by decide) (k_loc (L' := [some (.ref pl), some (.int (iI ((a.toNat : Nat) : Int))), some (.int (iI n)), some (.int (iI k)), some (.ref q), some (.int (iI ((ksm (fun t => kB (0 ≤ rmF f a.toNat k (t : Int) n)) i) + 1))), some (.int (iI ((i : Nat) : Int)))]) rfl ?_)
            refine k_iinc (a := ((i : Nat) : Int)) (pc1 := 63) dX5_commonCount_60 rfl rfl (by decide) (k_loc (L' := [some (.ref pl), some (.int (iI ((a.toNat : Nat) : Int))), some (.int (iI n)), some (.int (iI k)), some (.ref q), some (.int (iI ((ksm (fun t => kB (0 ≤ rmF f a.toNat k (t : Int) n)) i) + 1))), some (.int (iI (((i : Nat) : Int) + 1)))]) rfl ?_)
            refine k_goto dX5_commonCount_63 (tgt := 31) rfl ?_
            have e : (ksm (fun t => kB (0 ≤ rmF f a.toNat k (t : Int) n)) (i + 1)) = ((ksm (fun t => kB (0 ≤ rmF f a.toNat k (t : Int) n)) i) + 1) := congrArg (fun z => (ksm (fun t => kB (0 ≤ rmF f a.toNat k (t : Int) n)) i) + z) (kB_t (by omega))
            refine k_loc (L' := [some (.ref pl), some (.int (iI ((a.toNat : Nat) : Int))), some (.int (iI n)), some (.int (iI k)), some (.ref q), some (.int (iI (ksm (fun t => kB (0 ≤ rmF f a.toNat k (t : Int) n)) (i + 1)))), some (.int (iI (((i : Nat) : Int) + 1)))]) (by rw [e]) ?_
            exact ih31 _ (by omega) (i + 1) h38 _ rfl (by omega) hS38 hfq
      exact hloop31 _ 0 h1 _ rfl (by omega) hS hfq
    · skip
      refine k_callS dX5_commonCount_10 rfl rfl lk_RX5_62 o_X5_requireSlot (as := [.int (iI k), .int (iI 0), .int (iI n)]) rfl rfl (w_rsN hl (by omega) (by decide) (by omega) hq10) (by decide) (by decide) (by decide) (by decide) (k8 rfl) (fun v h9 z => z.elim) (fun E h9 z => kx_out rfl ?_)
      obtain ⟨hv1, hv2⟩ := z
      subst hv1
      rw [hv2]
      exact (kOn_mk (c := 1) (v := 0) (f' := f) (by exact kI_f (by omega)) (by decide) rfl (kSt_rf hC))
  · skip
    refine k_callS dX5_commonCount_4 rfl rfl lk_RX5_49 o_X5_requireWithin (as := [.int (iI a), .int (iI 1), .int (iI 63)]) rfl rfl (w_rwN hl (by omega) (by decide) (by decide) hq4) (by decide) (by decide) (by decide) (by decide) (k8 rfl) (fun v h9 z => z.elim) (fun E h9 z => kx_out rfl ?_)
    obtain ⟨hv1, hv2⟩ := z
    subst hv1
    rw [hv2]
    exact (kOn_mk (c := 1) (v := 0) (f' := f) (by exact kI_f (by omega)) (by decide) rfl (kSt_rf hC))
theorem w_X5_firstCommon {l : Launch} {G : kG} {h : kAH} (hl : l.stackTraces = false) {pl : Nat} {γ : kGh} {A : kAb} {f : Nat → Int} (hC : kRp G h pl γ A f) {a n k : Int} (ra : -2147483648 ≤ a ∧ a < 2147483648) (rn : -2147483648 ≤ n ∧ n < 2147483648) (rk : -2147483648 ≤ k ∧ k < 2147483648) : kC l G m_X5_firstCommon 7 3 30 [.ref pl, .int (iI a), .int (iI n), .int (iI k)] h (kOy G pl γ h (TfirstCommon f a n k)) (kOn G pl γ h (TfirstCommon f a n k) ["", "java/lang/IllegalArgumentException", "java/util/NoSuchElementException"]) := by
  have h8 := kWf_cnt hC.2.2
  refine kC_of hl rfl rfl (Nat.le_of_ble_eq_true rfl) (L := [some (.ref pl), some (.int (iI a)), some (.int (iI n)), some (.int (iI k)), none, none, none]) rfl ?_
  refine k_iload_n (pc1 := 1) dX5_firstCommon_0 rfl rfl ?_
  refine k_iconst (pc1 := 2) dX5_firstCommon_1 rfl ?_
  refine k_bipush 63 (pc1 := 4) dX5_firstCommon_2 rfl (by decide) ?_
  by_cases hq4 : (1 : Int) ≤ a ∧ a ≤ 63
  · skip
    refine k_callS dX5_firstCommon_4 rfl rfl lk_RX5_49 o_X5_requireWithin (as := [.int (iI a), .int (iI 1), .int (iI 63)]) rfl rfl (w_rwY hl (by omega) (by decide) (by decide) hq4) (by decide) (by decide) (by decide) (by decide) (k8 rfl) (fun v h9 hv => ?_) (fun E h9 z => z.elim)
    obtain ⟨hv1, hv2⟩ := hv
    subst hv1
    rw [hv2]
    refine k_st (st' := []) rfl ?_
    refine k_iload_n (pc1 := 8) dX5_firstCommon_7 rfl rfl ?_
    refine k_iconst (pc1 := 9) dX5_firstCommon_8 rfl ?_
    refine k_iload_n (pc1 := 10) dX5_firstCommon_9 rfl rfl ?_
    by_cases hq10 : 0 ≤ k ∧ k ≤ 27 ∧ 0 ≤ (0 : Int) ∧ (0 : Int) ≤ 15 ∧ 1 ≤ n ∧ n ≤ 6 ∧ (0 : Int) + n ≤ 16
    · skip
      refine k_callS dX5_firstCommon_10 rfl rfl lk_RX5_62 o_X5_requireSlot (as := [.int (iI k), .int (iI 0), .int (iI n)]) rfl rfl (w_rsY hl (by omega) (by decide) (by omega) hq10) (by decide) (by decide) (by decide) (by decide) (k8 rfl) (fun v h9 hv => ?_) (fun E h9 z => z.elim)
      obtain ⟨hv1, hv2⟩ := hv
      subst hv1
      rw [hv2]
      refine k_st (st' := []) rfl ?_
      have hC0 := hC
      refine k_new (pc1 := 16) dX5_firstCommon_13 rfl nw_RX5_83 (by decide) (by decide) (fun q hq => ?_)
      refine k_dup (pc1 := 17) dX5_firstCommon_16 rfl rfl ?_
      refine k_iload_n (pc1 := 18) dX5_firstCommon_17 rfl rfl ?_
      refine k_iconst (pc1 := 19) dX5_firstCommon_18 rfl ?_
      refine k_iload_n (pc1 := 20) dX5_firstCommon_19 rfl rfl ?_
      refine k_callI dX5_firstCommon_20 rfl lk_RX5_85 o_X4_init (as := [.int (iI k), .int (iI 0), .int (iI n)]) rfl rfl (w_slotI hl (kup_same _ _ _)) (fun E h9 z => z.elim) (by decide) (by decide) (by decide) (by decide) (k8 rfl) (fun v h1 hv => ?_)
      obtain ⟨hv1, hS, hv3⟩ := hv
      subst hv1
      refine k_st (st' := [.ref q]) rfl ?_
      have hfq : ∀ b, b ≠ q → h1 b = h b := fun b hb => (hv3 b hb).trans (kup_ne hb)
      have hX : kXt h h1 := fun b e z => (hfq b (kne_new z hq)).trans z
      replace hC := kRp_xt hX hC
      clear hv3
      refine k_astore (pc1 := 25) dX5_firstCommon_23 rfl (by decide) (k_loc (L' := [some (.ref pl), some (.int (iI a)), some (.int (iI n)), some (.int (iI k)), some (.ref q), none, none]) rfl ?_)
      have hq9 : a.toNat < 64 := by omega
      refine k_loc (L' := [some (.ref pl), some (.int (iI ((a.toNat : Nat) : Int))), some (.int (iI n)), some (.int (iI k)), some (.ref q), none, none]) (by rw [Int.toNat_of_nonneg (by omega)]) ?_
      refine k_iload_n (pc1 := 26) dX5_firstCommon_25 rfl rfl ?_
      refine k_istore (pc1 := 28) dX5_firstCommon_26 rfl (by decide) (k_loc (L' := [some (.ref pl), some (.int (iI ((a.toNat : Nat) : Int))), some (.int (iI n)), some (.int (iI k)), some (.ref q), some (.int (iI k)), none]) rfl ?_)
      have hloop28 : ∀ (zz : Nat) (e : Int) (h5 : kAH) (e0 t0 : Int), zz = (28 - e).toNat → (k ≤ e) → (e ≤ 28) → (∀ x : Nat, (x : Int) < 16 * e + 0 → ¬ fcP f a.toNat n k x) → (h5 q = some (.inr (8, [.int (iI e0), .int (iI t0), .int (iI n)]))) → (∀ b, b ≠ q → h5 b = h b) → kW l G m_X5_firstCommon 7 (kOy G pl γ h (TfirstCommon f a n k)) (kOn G pl γ h (TfirstCommon f a n k) ["", "java/lang/IllegalArgumentException", "java/util/NoSuchElementException"]) 2 27 28 [some (.ref pl), some (.int (iI ((a.toNat : Nat) : Int))), some (.int (iI n)), some (.int (iI k)), some (.ref q), some (.int (iI e)), none] [] h5 := by
        intro zz
        induction zz using Nat.strongRecOn with
        | ind zz ih28 =>
        intro e h5 e0 t0 hr28 hd0 hd1 hJ hS5 hfq
        have hX : kXt h h5 := fun b e z => (hfq b (kne_new z hq)).trans z
        replace hC := kRp_xt hX hC0
        refine k_iload (pc1 := 30) dX5_firstCommon_28 rfl rfl ?_
        refine k_bipush 28 (pc1 := 32) dX5_firstCommon_30 rfl (by decide) ?_
        refine k_icmp_ge (a := e) (b := 28) dX5_firstCommon_32 rfl (tgt := 92) rfl (by omega) (by decide) (fun c32 : 28 ≤ e => ?_) (fun c32 : e < 28 => ?_)
        · skip
          exact k_throwX 95 96 98 101 rfl nse_0 nse_1 nse_2 nse_5 rfl dX5_firstCommon_92 dX5_firstCommon_95 dX5_firstCommon_96 dX5_firstCommon_98 dX5_firstCommon_101 rfl rfl rfl rfl rfl (by decide) (by decide) cl_RX5_198 ini_NoSuchElementException (text := "no common time up to day 27") (by decide +kernel) ax_RX5_202 (k8 rfl) (by decide) (by decide) (kOn_mk (c := 2) (v := 0) (f' := f) (by exact (kI_t (by omega)).trans (kI_t (fc_no (by omega) hJ))) (by decide) rfl (kSt_xt hX hC0))
        · skip
          refine k_aload (pc1 := 37) dX5_firstCommon_35 rfl rfl ?_
          refine k_iload (pc1 := 39) dX5_firstCommon_37 rfl rfl ?_
          refine k_put (pc1 := 42) dX5_firstCommon_39 rfl fp_RX5_114 (Or.inl rfl) hS5 (Nat.le_of_ble_eq_true rfl) rfl rfl ?_
          obtain ⟨h39, eh39⟩ : ∃ z, z = kup h5 q (.inr (8, [.int (iI e), .int (iI t0), .int (iI n)])) := ⟨_, rfl⟩
          refine k_hp (h' := h39) eh39.symm ?_
          have hS39 : h39 q = some (.inr (8, [.int (iI e), .int (iI t0), .int (iI n)])) := by rw [eh39]; exact kup_same _ _ _
          replace hfq : ∀ b, b ≠ q → h39 b = h b := fun b hb => (by rw [eh39]; exact (kup_ne hb).trans (hfq b hb))
          clear eh39
          have hX : kXt h h39 := fun b e z => (hfq b (kne_new z hq)).trans z
          replace hC := kRp_xt hX hC0
          refine k_iconst (pc1 := 43) dX5_firstCommon_42 rfl ?_
          refine k_istore (pc1 := 45) dX5_firstCommon_43 rfl (by decide) (k_loc (L' := [some (.ref pl), some (.int (iI ((a.toNat : Nat) : Int))), some (.int (iI n)), some (.int (iI k)), some (.ref q), some (.int (iI e)), some (.int (iI 0))]) rfl ?_)
          have hloop45 : ∀ (zz : Nat) (t : Int) (h6 : kAH) (t0 : Int), zz = (17 - t).toNat → (0 ≤ t) → (t ≤ 16) → (∀ x : Nat, (x : Int) < 16 * e + t → ¬ fcP f a.toNat n k x) → (h6 q = some (.inr (8, [.int (iI e), .int (iI t0), .int (iI n)]))) → (∀ b, b ≠ q → h6 b = h b) → kW l G m_X5_firstCommon 7 (kOy G pl γ h (TfirstCommon f a n k)) (kOn G pl γ h (TfirstCommon f a n k) ["", "java/lang/IllegalArgumentException", "java/util/NoSuchElementException"]) 2 27 45 [some (.ref pl), some (.int (iI ((a.toNat : Nat) : Int))), some (.int (iI n)), some (.int (iI k)), some (.ref q), some (.int (iI e)), some (.int (iI t))] [] h6 := by
            intro zz
            induction zz using Nat.strongRecOn with
            | ind zz ih45 =>
            intro t h6 t0 hr45 ht0 ht1 hJ hS6 hfq
            have hX : kXt h h6 := fun b e z => (hfq b (kne_new z hq)).trans z
            replace hC := kRp_xt hX hC0
            refine k_iload (pc1 := 47) dX5_firstCommon_45 rfl rfl ?_
            refine k_bipush 16 (pc1 := 49) dX5_firstCommon_47 rfl (by decide) ?_
            refine k_iload_n (pc1 := 50) dX5_firstCommon_49 rfl rfl ?_
            refine k_isub (a := 16) (b := n) (pc1 := 51) dX5_firstCommon_50 rfl ?_
            refine k_icmp_gt (a := t) (b := (16 - n)) dX5_firstCommon_51 rfl (tgt := 86) rfl (by omega) (by omega) (fun c51 : (16 - n) < t => ?_) (fun c51 : t ≤ (16 - n) => ?_)
            · skip
              refine k_iinc (a := e) (pc1 := 89) dX5_firstCommon_86 rfl rfl (by decide) (k_loc (L' := [some (.ref pl), some (.int (iI ((a.toNat : Nat) : Int))), some (.int (iI n)), some (.int (iI k)), some (.ref q), some (.int (iI (e + 1))), some (.int (iI t))]) rfl ?_)
              refine k_goto dX5_firstCommon_89 (tgt := 28) rfl ?_
              refine k_forget 6 (k_loc (L' := [some (.ref pl), some (.int (iI ((a.toNat : Nat) : Int))), some (.int (iI n)), some (.int (iI k)), some (.ref q), some (.int (iI (e + 1))), none]) rfl ?_)
              exact ih28 _ (by omega) (e + 1) h6 _ _ rfl (by omega) (by omega) (fc_n (by omega) ⟨by omega, by omega, by omega⟩ hJ) hS6 hfq
            · skip
              refine k_aload (pc1 := 56) dX5_firstCommon_54 rfl rfl ?_
              refine k_iload (pc1 := 58) dX5_firstCommon_56 rfl rfl ?_
              refine k_put (pc1 := 61) dX5_firstCommon_58 rfl fp_RX5_122 (Or.inl rfl) hS6 (Nat.le_of_ble_eq_true rfl) rfl rfl ?_
              obtain ⟨h40, eh40⟩ : ∃ z, z = kup h6 q (.inr (8, [.int (iI e), .int (iI t), .int (iI n)])) := ⟨_, rfl⟩
              refine k_hp (h' := h40) eh40.symm ?_
              have hS40 : h40 q = some (.inr (8, [.int (iI e), .int (iI t), .int (iI n)])) := by rw [eh40]; exact kup_same _ _ _
              replace hfq : ∀ b, b ≠ q → h40 b = h b := fun b hb => (by rw [eh40]; exact (kup_ne hb).trans (hfq b hb))
              clear eh40
              have hX : kXt h h40 := fun b e z => (hfq b (kne_new z hq)).trans z
              replace hC := kRp_xt hX hC0
              refine k_aload_n (pc1 := 62) dX5_firstCommon_61 rfl rfl ?_
              refine k_iload_n (pc1 := 63) dX5_firstCommon_62 rfl rfl ?_
              refine k_aload (pc1 := 65) dX5_firstCommon_63 rfl rfl ?_
              refine k_callVP dX5_firstCommon_65 rfl lk_RX5_234 o_X5_commonRoom (w_comR hl hC (qq := a.toNat) (by omega) hS40 ⟨by omega, by omega⟩ ⟨by omega, by omega⟩ ⟨by omega, by omega⟩) (as := [.int (iI ((a.toNat : Nat) : Int)), .ref q]) (rp_P hC) rfl rfl rfl rfl (by decide) (by decide) (k8 rfl) ?_
              have hrr := rmF_r f a.toNat e t n
              by_cases hrm : (rmF f a.toNat e t n) < 0
              · skip
                refine k_val (v' := .null) (by rw [brF, if_pos hrm]; rfl) ?_
                refine k_ifnullN dX5_firstCommon_68 (tgt := 80) rfl ?_
                refine k_iinc (a := t) (pc1 := 83) dX5_firstCommon_80 rfl rfl (by decide) (k_loc (L' := [some (.ref pl), some (.int (iI ((a.toNat : Nat) : Int))), some (.int (iI n)), some (.int (iI k)), some (.ref q), some (.int (iI e)), some (.int (iI (t + 1)))]) rfl ?_)
                refine k_goto dX5_firstCommon_83 (tgt := 45) rfl ?_
                exact ih45 _ (by omega) (t + 1) h40 _ rfl (by omega) (by omega) (fc_s (by omega) ⟨by omega, by omega⟩ (by omega) hJ (by omega)) hS40 hfq
              · skip
                refine k_val (v' := .ref (gRm γ (rmF f a.toNat e t n))) (by rw [brF, if_neg hrm]; rfl) ?_
                refine k_ifnull (pc1 := 71) dX5_firstCommon_68 rfl ?_
                refine k_bipush 16 (pc1 := 73) dX5_firstCommon_71 rfl (by decide) ?_
                refine k_iload (pc1 := 75) dX5_firstCommon_73 rfl rfl ?_
                refine k_imul (a := 16) (b := e) (pc1 := 76) dX5_firstCommon_75 rfl ?_
                refine k_iload (pc1 := 78) dX5_firstCommon_76 rfl rfl ?_
                refine k_iadd (a := (16 * e)) (b := t) (pc1 := 79) dX5_firstCommon_78 rfl ?_
                exact k_iret dX5_firstCommon_79 rfl rfl (kOy_mk (v := ((16 * e) + t)) (f' := f) (by have e := fc_at (by omega) ⟨hd0, by omega⟩ ⟨by omega, by omega⟩ (by omega) hJ (by omega); unfold TfirstCommon; rw [kI_t (by omega), kI_f (by rw [e]; omega), e]) (kSt_xt hX hC0))
          exact hloop45 _ 0 h39 _ rfl (by omega) (by omega) hJ hS39 hfq
      exact hloop28 _ k h1 _ _ rfl (by omega) (by omega) (fun x hx z => by have := z.1; omega) hS hfq
    · skip
      refine k_callS dX5_firstCommon_10 rfl rfl lk_RX5_62 o_X5_requireSlot (as := [.int (iI k), .int (iI 0), .int (iI n)]) rfl rfl (w_rsN hl (by omega) (by decide) (by omega) hq10) (by decide) (by decide) (by decide) (by decide) (k8 rfl) (fun v h9 z => z.elim) (fun E h9 z => kx_out rfl ?_)
      obtain ⟨hv1, hv2⟩ := z
      subst hv1
      rw [hv2]
      exact (kOn_mk (c := 1) (v := 0) (f' := f) (by exact kI_f (by omega)) (by decide) rfl (kSt_rf hC))
  · skip
    refine k_callS dX5_firstCommon_4 rfl rfl lk_RX5_49 o_X5_requireWithin (as := [.int (iI a), .int (iI 1), .int (iI 63)]) rfl rfl (w_rwN hl (by omega) (by decide) (by decide) hq4) (by decide) (by decide) (by decide) (by decide) (k8 rfl) (fun v h9 z => z.elim) (fun E h9 z => kx_out rfl ?_)
    obtain ⟨hv1, hv2⟩ := z
    subst hv1
    rw [hv2]
    exact (kOn_mk (c := 1) (v := 0) (f' := f) (by exact kI_f (by omega)) (by decide) rfl (kSt_rf hC))
