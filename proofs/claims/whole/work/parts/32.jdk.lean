/-! ===== the JDK: max, min, checkIndex, size, get, grow, walked ===== -/
theorem w_jci3 {l : Launch} {G : kG} {h : kAH} (hl : l.stackTraces = false) (i n : Int) (hi : 0 ≤ i ∧ i < n) (hn : n < 2147483648) : kP l G m_J3_checkIndex_8e157 1 [.int (iI i), .int (iI n), .null] h (.int (iI i)) := by
  refine kC_of hl rfl rfl (Nat.le_of_ble_eq_true rfl) (L := [some (.int (iI i)), some (.int (iI n)), some (.null)]) rfl ?_
  refine k_iload_n (pc1 := 1) dJ3_checkIndex_8e157_0 rfl rfl ?_
  refine k_if_lt (a := i) dJ3_checkIndex_8e157_1 rfl (tgt := 9) rfl (by omega) (fun c1 : i < 0 => ?_) (fun c1 : ¬ i < 0 => ?_)
  · skip
    exfalso; omega
  · skip
    refine k_iload_n (pc1 := 5) dJ3_checkIndex_8e157_4 rfl rfl ?_
    refine k_iload_n (pc1 := 6) dJ3_checkIndex_8e157_5 rfl rfl ?_
    refine k_icmp_lt (a := i) (b := n) dJ3_checkIndex_8e157_6 rfl (tgt := 16) rfl (by omega) (by omega) (fun c6 : i < n => ?_) (fun c6 : n ≤ i => ?_)
    · skip
      refine k_iload_n (pc1 := 17) dJ3_checkIndex_8e157_16 rfl rfl ?_
      exact k_iret dJ3_checkIndex_8e157_17 rfl rfl (kret rfl _)
    · skip
      exfalso; omega
theorem w_jci2 {l : Launch} {G : kG} {h : kAH} (hl : l.stackTraces = false) (i n : Int) (hi : 0 ≤ i ∧ i < n) (hn : n < 2147483648) : kP l G m_J15_checkIndex_7cf53 2 [.int (iI i), .int (iI n)] h (.int (iI i)) := by
  refine kC_of hl rfl rfl (Nat.le_of_ble_eq_true rfl) (L := [some (.int (iI i)), some (.int (iI n))]) rfl ?_
  refine k_iload_n (pc1 := 1) dJ15_checkIndex_7cf53_0 rfl rfl ?_
  refine k_iload_n (pc1 := 2) dJ15_checkIndex_7cf53_1 rfl rfl ?_
  refine k_null (pc1 := 3) dJ15_checkIndex_7cf53_2 rfl ?_
  refine k_callSP dJ15_checkIndex_7cf53_3 rfl lk_RJ15_105 o_J3_checkIndex_8e157 (w_jci3 hl i n hi hn) (as := [.int (iI i), .int (iI n), .null]) rfl rfl rfl (by decide) (by decide) (k8 rfl) ?_
  exact k_iret dJ15_checkIndex_7cf53_6 rfl rfl (kret rfl _)
theorem w_jnl {l : Launch} {G : kG} {h : kAH} (hl : l.stackTraces = false) (a b e : Int) (ha : 0 ≤ a ∧ a ≤ 1000) (hb : 1 ≤ b ∧ b ≤ 1000) (he : 0 ≤ e ∧ e ≤ 1000) : kP l G m_J8_newLength_cabcc 2 [.int (iI a), .int (iI b), .int (iI e)] h (.int (iI (a + kI (b < e) e b))) := by
  refine kC_of hl rfl rfl (Nat.le_of_ble_eq_true rfl) (L := [some (.int (iI a)), some (.int (iI b)), some (.int (iI e)), none]) rfl ?_
  refine k_iload_n (pc1 := 1) dJ8_newLength_cabcc_0 rfl rfl ?_
  refine k_iload_n (pc1 := 2) dJ8_newLength_cabcc_1 rfl rfl ?_
  refine k_iload_n (pc1 := 3) dJ8_newLength_cabcc_2 rfl rfl ?_
  refine k_max (a := b) (b := e) dJ8_newLength_cabcc_3 rfl lk_RJ8_194 (by omega) (by omega) (k8 rfl) ?_
  have hk : 1 ≤ kI (b < e) e b ∧ kI (b < e) e b ≤ 1000 := by
    by_cases c : b < e
    · rw [kI_t c]; omega
    · rw [kI_f c]; omega
  refine k_iadd (a := a) (b := (kI (b < e) e b)) (pc1 := 7) dJ8_newLength_cabcc_6 rfl ?_
  refine k_istore_n (pc1 := 8) dJ8_newLength_cabcc_7 rfl (by decide) (k_loc (L' := [some (.int (iI a)), some (.int (iI b)), some (.int (iI e)), some (.int (iI (a + (kI (b < e) e b))))]) rfl ?_)
  refine k_iconst (pc1 := 9) dJ8_newLength_cabcc_8 rfl ?_
  refine k_iload_n (pc1 := 10) dJ8_newLength_cabcc_9 rfl rfl ?_
  refine k_icmp_ge (a := 0) (b := (a + (kI (b < e) e b))) dJ8_newLength_cabcc_10 rfl (tgt := 21) rfl (by decide) (by omega) (fun c10 : (a + (kI (b < e) e b)) ≤ 0 => ?_) (fun c10 : 0 < (a + (kI (b < e) e b)) => ?_)
  · skip
    exfalso; omega
  · skip
    refine k_iload_n (pc1 := 14) dJ8_newLength_cabcc_13 rfl rfl ?_
    refine k_ldc (pc1 := 16) dJ8_newLength_cabcc_14 rfl kc_RJ8_200 (k_val (v' := .int (iI 2147483639)) (by decide) ?_)
    refine k_icmp_gt (a := (a + (kI (b < e) e b))) (b := 2147483639) dJ8_newLength_cabcc_16 rfl (tgt := 21) rfl (by omega) (by decide) (fun c16 : 2147483639 < (a + (kI (b < e) e b)) => ?_) (fun c16 : (a + (kI (b < e) e b)) ≤ 2147483639 => ?_)
    · skip
      exfalso; omega
    · skip
      refine k_iload_n (pc1 := 20) dJ8_newLength_cabcc_19 rfl rfl ?_
      exact k_iret dJ8_newLength_cabcc_20 rfl rfl (kret rfl _)
def kcap (c : Nat) : Nat := c + (if 1 < c / 2 then c / 2 else 1)
theorem kcap_eq {c : Nat} : ((c : Nat) : Int) + kI (((c : Nat) : Int) + 1 - ((c : Nat) : Int) < ((c / 2 : Nat) : Int)) ((c / 2 : Nat) : Int) (((c : Nat) : Int) + 1 - ((c : Nat) : Int)) = ((kcap c : Nat) : Int) := by
  unfold kcap
  by_cases q : 1 < c / 2
  · rw [kI_t (by omega), if_pos q]; omega
  · rw [kI_f (by omega), if_neg q]; omega
theorem kcap_r {c : Nat} (h : c ≤ 130) : c < kcap c ∧ kcap c ≤ 195 := by
  unfold kcap
  split <;> omega
theorem iI_sr1 {c : Nat} (h : c ≤ 200) : iI (c : Int) >>> (iI 1 &&& 31) = iI ((c / 2 : Nat) : Int) := by
  have h2 : ∀ c : Fin 201, iI ((c : Nat) : Int) >>> (iI 1 &&& 31) = iI (((c : Nat) / 2 : Nat) : Int) := by decide +kernel
  exact h2 ⟨c, by omega⟩
theorem w_lsize {l : Launch} {G : kG} {h : kAH} (hl : l.stackTraces = false) {a ar : Nat} {mc len : Int} (hA : h a = some (.inr (3, [.int (iI mc), .ref ar, .int (iI len)]))) : kP l G m_Jx4a65c_size_8abf5 1 [.ref a] h (.int (iI len)) := by
  refine kC_of hl rfl rfl (Nat.le_of_ble_eq_true rfl) (L := [some (.ref a)]) rfl ?_
  refine k_aload_n (pc1 := 1) dJx4a65c_size_8abf5_0 rfl rfl ?_
  refine k_get (pc1 := 4) dJx4a65c_size_8abf5_1 rfl fd_RJx4a65c_48 hA (v := .int (iI len)) rfl ?_
  exact k_iret dJx4a65c_size_8abf5_4 rfl rfl (kret rfl _)
theorem w_led {l : Launch} {G : kG} {h : kAH} (hl : l.stackTraces = false) {a ar : Nat} {mc len : Int} (hA : h a = some (.inr (3, [.int (iI mc), .ref ar, .int (iI len)]))) {c : Nat} {F : Nat → Option Nat} (hR : h ar = some (kro G 3 c F)) (hc : c ≤ 200) (i : Int) (hi : 0 ≤ i ∧ i < (c : Int)) {x : Nat} (hx : F i.toNat = some x) : kP l G m_Jx4a65c_elementData_915e3 1 [.ref a, .int (iI i)] h (.ref x) := by
  refine kC_of hl rfl rfl (Nat.le_of_ble_eq_true rfl) (L := [some (.ref a), some (.int (iI i))]) rfl ?_
  refine k_aload_n (pc1 := 1) dJx4a65c_elementData_915e3_0 rfl rfl ?_
  refine k_get (pc1 := 4) dJx4a65c_elementData_915e3_1 rfl fd_RJx4a65c_9 hA (v := .ref ar) rfl ?_
  refine k_iload_n (pc1 := 5) dJx4a65c_elementData_915e3_4 rfl rfl ?_
  refine k_aald (i := i) (pc1 := 6) dJx4a65c_elementData_915e3_5 rfl hR (j := 3) rfl (by omega) (by omega) (by omega) (k_val (v' := .ref x) (congrArg va_rf hx) ?_)
  exact k_aret dJx4a65c_elementData_915e3_6 rfl (Or.inl ⟨_, rfl⟩) (Or.inr ⟨_, rfl⟩) ⟨rfl, rfl⟩
theorem w_lget {l : Launch} {G : kG} {h : kAH} (hl : l.stackTraces = false) {a ar : Nat} {mc len : Int} (hA : h a = some (.inr (3, [.int (iI mc), .ref ar, .int (iI len)]))) {c : Nat} {F : Nat → Option Nat} (hR : h ar = some (kro G 3 c F)) (hc : c ≤ 200) (i : Int) (hi : 0 ≤ i ∧ i < len) (hl2 : len ≤ (c : Int)) {x : Nat} (hx : F i.toNat = some x) : kP l G m_Jx4a65c_get_915e3 3 [.ref a, .int (iI i)] h (.ref x) := by
  refine kC_of hl rfl rfl (Nat.le_of_ble_eq_true rfl) (L := [some (.ref a), some (.int (iI i))]) rfl ?_
  refine k_iload_n (pc1 := 1) dJx4a65c_get_915e3_0 rfl rfl ?_
  refine k_aload_n (pc1 := 2) dJx4a65c_get_915e3_1 rfl rfl ?_
  refine k_get (pc1 := 5) dJx4a65c_get_915e3_2 rfl fd_RJx4a65c_48 hA (v := .int (iI len)) rfl ?_
  refine k_callSP dJx4a65c_get_915e3_5 rfl lk_RJx4a65c_118 o_J15_checkIndex_7cf53 (w_jci2 hl i len hi (by omega)) (as := [.int (iI i), .int (iI len)]) rfl rfl rfl (by decide) (by decide) (k8 rfl) ?_
  refine k_pop (pc1 := 9) dJx4a65c_get_915e3_8 rfl rfl ?_
  refine k_aload_n (pc1 := 10) dJx4a65c_get_915e3_9 rfl rfl ?_
  refine k_iload_n (pc1 := 11) dJx4a65c_get_915e3_10 rfl rfl ?_
  refine k_callVP dJx4a65c_get_915e3_11 rfl lk_RJx4a65c_123 o_Jx4a65c_elementData_915e3 (w_led hl hA hR hc i ⟨by omega, by omega⟩ hx) (as := [.int (iI i)]) hA rfl rfl rfl rfl (by decide) (by decide) (k8 rfl) ?_
  exact k_aret dJx4a65c_get_915e3_14 rfl (Or.inl ⟨_, rfl⟩) (Or.inr ⟨_, rfl⟩) ⟨rfl, rfl⟩
theorem w_lsz {l : Launch} {G : kG} {h : kAH} (hl : l.stackTraces = false) {a ar c : Nat} {xs : List Nat} (hS : kLs G h a ar c xs) : kP l G m_Jx4a65c_size_8abf5 1 [.ref a] h (.int (iI ((xs.length : Nat) : Int))) := by
  obtain ⟨⟨mc, hA⟩, -⟩ := hS
  exact w_lsize hl hA
theorem w_lgt {l : Launch} {G : kG} {h : kAH} (hl : l.stackTraces = false) {a ar c : Nat} {xs : List Nat} (hS : kLs G h a ar c xs) (i : Int) (hi : 0 ≤ i ∧ i < ((xs.length : Nat) : Int)) {x : Nat} (hx : xs[i.toNat]? = some x) : kP l G m_Jx4a65c_get_915e3 3 [.ref a, .int (iI i)] h (.ref x) := by
  obtain ⟨⟨mc, hA⟩, h2⟩ := hS
  rcases h2 with ⟨-, e, -⟩ | ⟨g1, g2, F, hR, g3, g4⟩
  · subst e
    exact absurd hi.2 (by show ¬ i < ((0 : Nat) : Int); omega)
  · exact w_lget hl hA hR g2 i hi (by omega) ((g4 i.toNat (by omega)).trans hx)
