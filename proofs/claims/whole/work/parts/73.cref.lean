/-! ===== the class: refusals noted, walked ===== -/
theorem kan_bit {a b p : Nat} : (kan a b).testBit p = true ↔ a.testBit p = true ∧ b.testBit p = true := by
  unfold kan
  rw [Nat.testBit_and, Bool.and_eq_true]
theorem bp_low {f : Nat → Int} {wm wd : Int} {q : Nat} {k t n : Int} : kls (fun p => (kan (bpF f wm wd k t n) q).testBit p = true) 6 = bsyF f wm wd q k t n := by
  unfold bsyF
  refine kls_cg fun p hp => ?_
  rw [kan_bit]
  unfold bpF
  rw [kmk_bit]
  exact ⟨fun z => ⟨z.2, z.1.2⟩, fun z => ⟨⟨hp, z.2⟩, z.1⟩⟩
-- thrown, with a refusal noted
def kRf (G : kG) (pl : Nat) (γ : kGh) (h : kAH) (f' : Nat → Int) (E0 : String) : String → kAH → Prop := fun E h' => E = E0 ∧ ∃ A' : kAb, kRp G h' pl γ A' f' ∧ ∀ b : Nat, b ≠ pl → h' b = h b
theorem w_noteR {l : Launch} {G : kG} {h : kAH} (hl : l.stackTraces = false) {pl : Nat} {γ : kGh} {A : kAb} {f : Nat → Int} (hC : kRp G h pl γ A f) {a b : Int} (ha : 0 ≤ a ∧ a ≤ 4) (hb : 0 ≤ b ∧ b ≤ 6) : kC l G m_X5_noteRefusal 1 0 0 [.ref pl, .int (iI a), .int (iI b)] h (fun v h' => v = none ∧ (∃ A' : kAb, kRp G h' pl γ A' (rfF f a b)) ∧ ∀ c : Nat, c ≠ pl → h' c = h c) kNo := by
  refine kC_of hl rfl rfl (Nat.le_of_ble_eq_true rfl) (L := [some (.ref pl), some (.int (iI a)), some (.int (iI b))]) rfl ?_
  refine k_aload_n (pc1 := 1) dX5_noteRefusal_0 rfl rfl ?_
  refine k_iload_n (pc1 := 2) dX5_noteRefusal_1 rfl rfl ?_
  refine k_put (pc1 := 5) dX5_noteRefusal_2 rfl fp_RX5_39 (Or.inl rfl) (rp_P hC) (Nat.le_of_ble_eq_true rfl) rfl rfl ?_
  obtain ⟨h44, eh44⟩ : ∃ z, z = kup h pl (.inr (9, [.ref (gRa γ), .ref (gDa γ), .ref (gMl γ), .int (iI (f 0)), .int (iI (f 2)), .int (iI a), .int (iI (f 4))])) := ⟨_, rfl⟩
  refine k_hp (h' := h44) eh44.symm ?_
  have hT44 : h44 pl = some (.inr (9, [.ref (gRa γ), .ref (gDa γ), .ref (gMl γ), .int (iI (f 0)), .int (iI (f 2)), .int (iI a), .int (iI (f 4))])) := by rw [eh44]; exact kup_same _ _ _
  have hG44 : ∀ b, b ≠ pl → h44 b = h b := fun b hb => by rw [eh44]; exact kup_ne hb
  clear eh44
  refine k_aload_n (pc1 := 6) dX5_noteRefusal_5 rfl rfl ?_
  refine k_iload_n (pc1 := 7) dX5_noteRefusal_6 rfl rfl ?_
  refine k_put (pc1 := 10) dX5_noteRefusal_7 rfl fp_RX5_42 (Or.inl rfl) hT44 (Nat.le_of_ble_eq_true rfl) rfl rfl ?_
  obtain ⟨h45, eh45⟩ : ∃ z, z = kup h44 pl (.inr (9, [.ref (gRa γ), .ref (gDa γ), .ref (gMl γ), .int (iI (f 0)), .int (iI (f 2)), .int (iI a), .int (iI b)])) := ⟨_, rfl⟩
  refine k_hp (h' := h45) eh45.symm ?_
  have hT45 : h45 pl = some (.inr (9, [.ref (gRa γ), .ref (gDa γ), .ref (gMl γ), .int (iI (f 0)), .int (iI (f 2)), .int (iI a), .int (iI b)])) := by rw [eh45]; exact kup_same _ _ _
  have hG45 : ∀ b, b ≠ pl → h45 b = h b := fun b hb => by rw [eh45]; exact (kup_ne hb).trans (hG44 b hb)
  clear eh45
  have hw := wf_rf hC.2.2 ha hb
  obtain ⟨A2, q1, -⟩ := rp_Pc (f' := rfF f a b) hC hw hG45 (by rw [show rfF f a b 0 = f 0 from (ki_ne (by decide)).trans (ki_ne (by decide)), show rfF f a b 2 = f 2 from (ki_ne (by decide)).trans (ki_ne (by decide)), show rfF f a b 3 = a from (ki_ne (by decide)).trans ki_eq, show rfF f a b 4 = b from ki_eq]; exact hT45) ((ki_ne (by decide)).trans (ki_ne (by decide))) (fun r r0 r1 => ⟨(ki_ne (by omega)).trans (ki_ne (by omega)), (ki_ne (by omega)).trans (ki_ne (by omega))⟩) (fun m w m0 w0 => (ki_oF (by decide) m0 w0).trans (ki_oF (by decide) m0 w0))
  exact k_vret dX5_noteRefusal_10 rfl ⟨rfl, ⟨A2, q1⟩, hG45⟩
theorem w_nbN {l : Launch} {G : kG} {h : kAH} (hl : l.stackTraces = false) {pl : Nat} {γ : kGh} {A : kAb} {f : Nat → Int} (hC : kRp G h pl γ A f) {o dl : Nat} {num hst : Int} {ak ys no : Nat} (hO : h o = some (.inr (6, [.int (iI num), .int (iI hst), .int (iI ((ak : Nat) : Int)), .ref dl, .int (iI ((ys : Nat) : Int)), .int (iI ((no : Nat) : Int))]))) (hh : 0 ≤ hst ∧ hst < 6) (ha : ak < 64) (hy : ys < 64) (hno : no < 64) {s : Nat} {k t n : Int} (hS : h s = some (.inr (8, [.int (iI k), .int (iI t), .int (iI n)]))) (hk : 0 ≤ k ∧ k < 28) (ht : 0 ≤ t ∧ t < 16) (hn : 1 ≤ n ∧ n ≤ 6) {lo : Option Nat} {wm wd : Int} (hlo : kLv γ f lo wm wd) (hc : 0 ≤ bsyF f wm wd (exM hst ak no) k t n) : kC l G m_X5_requireNobodyBusy 5 1 6 [.ref pl, .ref o, .ref s, va_rf lo] h kNv (kRf G pl γ h (rfF f 1 (bsyF f wm wd (exM hst ak no) k t n)) "java/lang/UnsupportedOperationException") := by
  have hxl := exM_lt (no := no) hh ha
  refine kC_of hl rfl rfl (by cases lo <;> exact Nat.le_of_ble_eq_true rfl) (L := [some (.ref pl), some (.ref o), some (.ref s), some (va_rf lo), none])  (by cases lo <;> rfl) ?_
  refine k_aload_n (pc1 := 1) dX5_requireNobodyBusy_0 rfl rfl ?_
  refine k_aload_n (pc1 := 2) dX5_requireNobodyBusy_1 rfl rfl ?_
  refine k_aload_nq (pc1 := 3) dX5_requireNobodyBusy_2 rfl rfl ?_
  refine k_callVP dX5_requireNobodyBusy_3 rfl lk_RX5_304 o_X5_busyPeople (w_busyP hl hC hS ⟨by omega, by omega⟩ ⟨by omega, by omega⟩ ⟨by omega, by omega⟩ hlo) (as := [.ref s, va_rf lo]) (rp_P hC) rfl rfl rfl rfl (by decide) (by decide) (k8 rfl) ?_
  refine k_aload_n (pc1 := 7) dX5_requireNobodyBusy_6 rfl rfl ?_
  refine k_callVP dX5_requireNobodyBusy_7 rfl lk_RX5_308 o_X2_expectedPeople (w_X2_expectedPeople hl hO hh ha hy hno) (as := []) hO rfl rfl rfl rfl (by decide) (by decide) (k8 rfl) ?_
  refine k_iand (pc1 := 11) dX5_requireNobodyBusy_10 rfl (k_val (v' := .int (iI (((kan (bpF f wm wd k t n) (exM hst ak no)) : Nat) : Int))) (congrArg Value.int iI_and) ?_)
  refine k_istore (pc1 := 13) dX5_requireNobodyBusy_11 rfl (by decide) (k_loc (L' := [some (.ref pl), some (.ref o), some (.ref s), some (va_rf lo), some (.int (iI (((kan (bpF f wm wd k t n) (exM hst ak no)) : Nat) : Int)))]) (kset1_q (i := 3) rfl) ?_)
  refine k_iload (pc1 := 15) dX5_requireNobodyBusy_13 rfl rfl ?_
  have hkl : kan (bpF f wm wd k t n) (exM hst ak no) < 64 := kan_lt (kmk_lt _ 6)
  refine k_if_eq (a := (((kan (bpF f wm wd k t n) (exM hst ak no)) : Nat) : Int)) dX5_requireNobodyBusy_15 rfl (tgt := 39) rfl (by omega) (fun c15 : (((kan (bpF f wm wd k t n) (exM hst ak no)) : Nat) : Int) = 0 => ?_) (fun c15 : (((kan (bpF f wm wd k t n) (exM hst ak no)) : Nat) : Int) ≠ 0 => ?_)
  · skip
    exact absurd c15 (bp_iff.mpr hc)
  · skip
    have hlow := (kand_ne (a := bpF f wm wd k t n) (b := exM hst ak no) (kmk_lt _ 6)).mp c15
    replace hlow : ∃ p, p < 6 ∧ (kan (bpF f wm wd k t n) (exM hst ak no)).testBit p = true := by
      obtain ⟨p, u1, u2, u3⟩ := hlow
      exact ⟨p, u1, kan_bit.mpr ⟨u2, u3⟩⟩
    have hbr := bsyF_r f wm wd (exM hst ak no) k t n
    refine k_aload_n (pc1 := 19) dX5_requireNobodyBusy_18 rfl rfl ?_
    refine k_iconst (pc1 := 20) dX5_requireNobodyBusy_19 rfl ?_
    refine k_iload (pc1 := 22) dX5_requireNobodyBusy_20 rfl rfl ?_
    refine k_callSP dX5_requireNobodyBusy_22 rfl lk_RX5_311 o_X5_lowestPerson (w_X5_lowestPerson hl (kan (bpF f wm wd k t n) (exM hst ak no)) (by first | omega | exact kmk_lt _ 6 | exact exM_lt ⟨by omega, by omega⟩ (by first | omega | exact kmk_lt _ 6) | assumption) hlow) (as := [.int (iI (((kan (bpF f wm wd k t n) (exM hst ak no)) : Nat) : Int))]) rfl rfl rfl (by decide) (by decide) (k8 rfl) ?_
    refine k_st (st' := [.int (iI (bsyF f wm wd (exM hst ak no) k t n)), .int (iI 1), .ref pl]) (by rw [bp_low]) ?_
    refine k_callV dX5_requireNobodyBusy_25 rfl lk_RX5_314 o_X5_noteRefusal (as := [.int (iI 1), .int (iI (bsyF f wm wd (exM hst ak no) k t n))]) rfl rfl (rp_P hC) rfl rfl (w_noteR hl hC (a := 1) (b := (bsyF f wm wd (exM hst ak no) k t n)) ⟨by omega, by omega⟩ ⟨by omega, by omega⟩) (by decide) (by decide) (Nat.zero_le _) (Nat.zero_le _) (k8 rfl) (fun v h1 hv => ?_) (fun E h9 z => z.elim)
    obtain ⟨hv1, ⟨A1, hC1⟩, hfr1⟩ := hv
    subst hv1
    refine k_st (st' := []) rfl ?_
    exact k_throwW 31 32 35 38 rfl dX5_requireNobodyBusy_28 dX5_requireNobodyBusy_31 dX5_requireNobodyBusy_32 dX5_requireNobodyBusy_35 dX5_requireNobodyBusy_38 rfl rfl rfl rfl rfl (by decide) (by decide) cl_RX5_318 ini_UnsupportedOperationException (text := "a person has another date") (by decide +kernel) at_RX5_322 (k8 rfl) (by decide) (by decide) ⟨rfl, A1, hC1, hfr1⟩
theorem w_nbY {l : Launch} {G : kG} {h : kAH} (hl : l.stackTraces = false) {pl : Nat} {γ : kGh} {A : kAb} {f : Nat → Int} (hC : kRp G h pl γ A f) {o dl : Nat} {num hst : Int} {ak ys no : Nat} (hO : h o = some (.inr (6, [.int (iI num), .int (iI hst), .int (iI ((ak : Nat) : Int)), .ref dl, .int (iI ((ys : Nat) : Int)), .int (iI ((no : Nat) : Int))]))) (hh : 0 ≤ hst ∧ hst < 6) (ha : ak < 64) (hy : ys < 64) (hno : no < 64) {s : Nat} {k t n : Int} (hS : h s = some (.inr (8, [.int (iI k), .int (iI t), .int (iI n)]))) (hk : 0 ≤ k ∧ k < 28) (ht : 0 ≤ t ∧ t < 16) (hn : 1 ≤ n ∧ n ≤ 6) {lo : Option Nat} {wm wd : Int} (hlo : kLv γ f lo wm wd) (hc : ¬ 0 ≤ bsyF f wm wd (exM hst ak no) k t n) : kC l G m_X5_requireNobodyBusy 5 0 0 [.ref pl, .ref o, .ref s, va_rf lo] h (fun v h' => v = none ∧ h' = h) kNo := by
  have hxl := exM_lt (no := no) hh ha
  refine kC_of hl rfl rfl (by cases lo <;> exact Nat.le_of_ble_eq_true rfl) (L := [some (.ref pl), some (.ref o), some (.ref s), some (va_rf lo), none])  (by cases lo <;> rfl) ?_
  refine k_aload_n (pc1 := 1) dX5_requireNobodyBusy_0 rfl rfl ?_
  refine k_aload_n (pc1 := 2) dX5_requireNobodyBusy_1 rfl rfl ?_
  refine k_aload_nq (pc1 := 3) dX5_requireNobodyBusy_2 rfl rfl ?_
  refine k_callVP dX5_requireNobodyBusy_3 rfl lk_RX5_304 o_X5_busyPeople (w_busyP hl hC hS ⟨by omega, by omega⟩ ⟨by omega, by omega⟩ ⟨by omega, by omega⟩ hlo) (as := [.ref s, va_rf lo]) (rp_P hC) rfl rfl rfl rfl (by decide) (by decide) (k8 rfl) ?_
  refine k_aload_n (pc1 := 7) dX5_requireNobodyBusy_6 rfl rfl ?_
  refine k_callVP dX5_requireNobodyBusy_7 rfl lk_RX5_308 o_X2_expectedPeople (w_X2_expectedPeople hl hO hh ha hy hno) (as := []) hO rfl rfl rfl rfl (by decide) (by decide) (k8 rfl) ?_
  refine k_iand (pc1 := 11) dX5_requireNobodyBusy_10 rfl (k_val (v' := .int (iI (((kan (bpF f wm wd k t n) (exM hst ak no)) : Nat) : Int))) (congrArg Value.int iI_and) ?_)
  refine k_istore (pc1 := 13) dX5_requireNobodyBusy_11 rfl (by decide) (k_loc (L' := [some (.ref pl), some (.ref o), some (.ref s), some (va_rf lo), some (.int (iI (((kan (bpF f wm wd k t n) (exM hst ak no)) : Nat) : Int)))]) (kset1_q (i := 3) rfl) ?_)
  refine k_iload (pc1 := 15) dX5_requireNobodyBusy_13 rfl rfl ?_
  have hkl : kan (bpF f wm wd k t n) (exM hst ak no) < 64 := kan_lt (kmk_lt _ 6)
  refine k_if_eq (a := (((kan (bpF f wm wd k t n) (exM hst ak no)) : Nat) : Int)) dX5_requireNobodyBusy_15 rfl (tgt := 39) rfl (by omega) (fun c15 : (((kan (bpF f wm wd k t n) (exM hst ak no)) : Nat) : Int) = 0 => ?_) (fun c15 : (((kan (bpF f wm wd k t n) (exM hst ak no)) : Nat) : Int) ≠ 0 => ?_)
  · skip
    exact k_vret dX5_requireNobodyBusy_39 rfl ⟨rfl, rfl⟩
  · skip
    exact absurd (bp_iff.mp c15) hc
theorem w_rqN {l : Launch} {G : kG} {h : kAH} (hl : l.stackTraces = false) {pl : Nat} {γ : kGh} {A : kAb} {f : Nat → Int} (hC : kRp G h pl γ A f) {o dl : Nat} {num hst : Int} {ak ys no : Nat} (hO : h o = some (.inr (6, [.int (iI num), .int (iI hst), .int (iI ((ak : Nat) : Int)), .ref dl, .int (iI ((ys : Nat) : Int)), .int (iI ((no : Nat) : Int))]))) (hh : 0 ≤ hst ∧ hst < 6) (ha : ak < 64) (hy : ys < 64) (hno : no < 64) {s : Nat} {k t n : Int} (hS : h s = some (.inr (8, [.int (iI k), .int (iI t), .int (iI n)]))) (hk : 0 ≤ k ∧ k < 28) (ht : 0 ≤ t ∧ t < 16) (hn : 1 ≤ n ∧ n ≤ 6) {lo : Option Nat} {wm wd : Int} (hlo : kLv γ f lo wm wd) {ix : Int} (hix : 0 ≤ ix ∧ ix ≤ 6) (hc : (smlF f wm wd (exM hst ak no) k t n) < 0) : kC l G m_X5_requireRoom 6 1 6 [.ref pl, .ref o, .int (iI ix), .ref s, va_rf lo] h kNv (kRf G pl γ h (rfF f 2 ix) "java/lang/UnsupportedOperationException") := by
  have hxl := exM_lt (no := no) hh ha
  refine kC_of hl rfl rfl (by cases lo <;> exact Nat.le_of_ble_eq_true rfl) (L := [some (.ref pl), some (.ref o), some (.int (iI ix)), some (.ref s), some (va_rf lo), none])  (by cases lo <;> rfl) ?_
  refine k_aload_n (pc1 := 1) dX5_requireRoom_0 rfl rfl ?_
  refine k_aload_n (pc1 := 2) dX5_requireRoom_1 rfl rfl ?_
  refine k_callVP dX5_requireRoom_2 rfl lk_RX5_308 o_X2_expectedPeople (w_X2_expectedPeople hl hO hh ha hy hno) (as := []) hO rfl rfl rfl rfl (by decide) (by decide) (k8 rfl) ?_
  refine k_aload_n (pc1 := 6) dX5_requireRoom_5 rfl rfl ?_
  refine k_aloadq (pc1 := 8) dX5_requireRoom_6 rfl rfl ?_
  refine k_callVP dX5_requireRoom_8 rfl lk_RX5_323 o_X5_bestRoom (w_bestR hl hC (qq := (exM hst ak no)) (by first | omega | exact kmk_lt _ 6 | exact exM_lt ⟨by omega, by omega⟩ (by first | omega | exact kmk_lt _ 6) | assumption) hS ⟨by omega, by omega⟩ ⟨by omega, by omega⟩ ⟨by omega, by omega⟩ hlo) (as := [.int (iI (((exM hst ak no) : Nat) : Int)), .ref s, va_rf lo]) (rp_P hC) rfl rfl rfl rfl (by decide) (by decide) (k8 rfl) ?_
  refine k_val (v' := .null) (by rw [brF, if_pos hc]; rfl) ?_
  refine k_astoreN (pc1 := 13) dX5_requireRoom_11 rfl (by decide) (k_loc (L' := [some (.ref pl), some (.ref o), some (.int (iI ix)), some (.ref s), some (va_rf lo), some (.null)]) (kset1_q (i := 4) rfl) ?_)
  refine k_aloadN (pc1 := 15) dX5_requireRoom_13 rfl rfl ?_
  refine k_ifnonnullN (pc1 := 18) dX5_requireRoom_15 rfl ?_
  refine k_aload_n (pc1 := 19) dX5_requireRoom_18 rfl rfl ?_
  refine k_iconst (pc1 := 20) dX5_requireRoom_19 rfl ?_
  refine k_iload_n (pc1 := 21) dX5_requireRoom_20 rfl rfl ?_
  refine k_callV dX5_requireRoom_21 rfl lk_RX5_314 o_X5_noteRefusal (as := [.int (iI 2), .int (iI ix)]) rfl rfl (rp_P hC) rfl rfl (w_noteR hl hC (a := 2) (b := ix) ⟨by omega, by omega⟩ ⟨by omega, by omega⟩) (by decide) (by decide) (Nat.zero_le _) (Nat.zero_le _) (k8 rfl) (fun v h1 hv => ?_) (fun E h9 z => z.elim)
  obtain ⟨hv1, ⟨A1, hC1⟩, hfr1⟩ := hv
  subst hv1
  refine k_st (st' := []) rfl ?_
  exact k_throwW 27 28 31 34 rfl dX5_requireRoom_24 dX5_requireRoom_27 dX5_requireRoom_28 dX5_requireRoom_31 dX5_requireRoom_34 rfl rfl rfl rfl rfl (by decide) (by decide) cl_RX5_318 ini_UnsupportedOperationException (text := "no room fits") (by decide +kernel) at_RX5_322 (k8 rfl) (by decide) (by decide) ⟨rfl, A1, hC1, hfr1⟩
theorem w_rqY {l : Launch} {G : kG} {h : kAH} (hl : l.stackTraces = false) {pl : Nat} {γ : kGh} {A : kAb} {f : Nat → Int} (hC : kRp G h pl γ A f) {o dl : Nat} {num hst : Int} {ak ys no : Nat} (hO : h o = some (.inr (6, [.int (iI num), .int (iI hst), .int (iI ((ak : Nat) : Int)), .ref dl, .int (iI ((ys : Nat) : Int)), .int (iI ((no : Nat) : Int))]))) (hh : 0 ≤ hst ∧ hst < 6) (ha : ak < 64) (hy : ys < 64) (hno : no < 64) {s : Nat} {k t n : Int} (hS : h s = some (.inr (8, [.int (iI k), .int (iI t), .int (iI n)]))) (hk : 0 ≤ k ∧ k < 28) (ht : 0 ≤ t ∧ t < 16) (hn : 1 ≤ n ∧ n ≤ 6) {lo : Option Nat} {wm wd : Int} (hlo : kLv γ f lo wm wd) {ix : Int} (hix : 0 ≤ ix ∧ ix ≤ 6) (hc : 0 ≤ (smlF f wm wd (exM hst ak no) k t n)) : kC l G m_X5_requireRoom 6 0 0 [.ref pl, .ref o, .int (iI ix), .ref s, va_rf lo] h (kPq (.ref (gRm γ (smlF f wm wd (exM hst ak no) k t n))) h) kNo := by
  have hxl := exM_lt (no := no) hh ha
  refine kC_of hl rfl rfl (by cases lo <;> exact Nat.le_of_ble_eq_true rfl) (L := [some (.ref pl), some (.ref o), some (.int (iI ix)), some (.ref s), some (va_rf lo), none])  (by cases lo <;> rfl) ?_
  refine k_aload_n (pc1 := 1) dX5_requireRoom_0 rfl rfl ?_
  refine k_aload_n (pc1 := 2) dX5_requireRoom_1 rfl rfl ?_
  refine k_callVP dX5_requireRoom_2 rfl lk_RX5_308 o_X2_expectedPeople (w_X2_expectedPeople hl hO hh ha hy hno) (as := []) hO rfl rfl rfl rfl (by decide) (by decide) (k8 rfl) ?_
  refine k_aload_n (pc1 := 6) dX5_requireRoom_5 rfl rfl ?_
  refine k_aloadq (pc1 := 8) dX5_requireRoom_6 rfl rfl ?_
  refine k_callVP dX5_requireRoom_8 rfl lk_RX5_323 o_X5_bestRoom (w_bestR hl hC (qq := (exM hst ak no)) (by first | omega | exact kmk_lt _ 6 | exact exM_lt ⟨by omega, by omega⟩ (by first | omega | exact kmk_lt _ 6) | assumption) hS ⟨by omega, by omega⟩ ⟨by omega, by omega⟩ ⟨by omega, by omega⟩ hlo) (as := [.int (iI (((exM hst ak no) : Nat) : Int)), .ref s, va_rf lo]) (rp_P hC) rfl rfl rfl rfl (by decide) (by decide) (k8 rfl) ?_
  refine k_val (v' := .ref (gRm γ (smlF f wm wd (exM hst ak no) k t n))) (by rw [brF, if_neg (by omega)]; rfl) ?_
  refine k_astore (pc1 := 13) dX5_requireRoom_11 rfl (by decide) (k_loc (L' := [some (.ref pl), some (.ref o), some (.int (iI ix)), some (.ref s), some (va_rf lo), some (.ref (gRm γ (smlF f wm wd (exM hst ak no) k t n)))]) (kset1_q (i := 4) rfl) ?_)
  refine k_aload (pc1 := 15) dX5_requireRoom_13 rfl rfl ?_
  refine k_ifnonnull dX5_requireRoom_15 (tgt := 35) rfl ?_
  refine k_aload (pc1 := 37) dX5_requireRoom_35 rfl rfl ?_
  exact k_aret dX5_requireRoom_37 rfl (Or.inl ⟨_, rfl⟩) (Or.inr ⟨_, rfl⟩) ⟨rfl, rfl⟩
