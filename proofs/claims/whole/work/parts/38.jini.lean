/-! ===== the JDK: the list's constructor, bitCount ===== -/
theorem fp_RJxc12de_7 : kFp RJxc12de 7 3 0 .int false := ⟨RJx4a65c, TJx4a65c, 3, "java/util/AbstractList", tyJx4a65c, rfl, inW_RJx4a65c, by decide, kW0_in (inT1 (List.mem_of_getElem? (i := 85) rfl)) rfl, Or.inl rfl, tyJx4a65c_ok, nmJx4a65c, by decide +kernel, rfl, (fun h => by cases h)⟩
theorem w_ini0 {l : Launch} {G : kG} {h : kAH} (hl : l.stackTraces = false) {a : Nat} (hA : h a = some (.inr (3, [.int (iI 0), .null, .int (iI 0)]))) : kC l G m_Jxa1e45_init_da8c8 1 0 0 [.ref a] h (fun v h' => v = none ∧ h' = h) kNo := by
  refine kC_of hl rfl rfl (Nat.le_of_ble_eq_true rfl) (L := [some (.ref a)]) rfl ?_
  refine k_aload_n (pc1 := 1) dJxa1e45_init_da8c8_0 rfl rfl ?_
  refine k_objInit (pc1 := 4) dJxa1e45_init_da8c8_1 rfl lk_RJxa1e45_1 oi_inst oi_code (k8 rfl) ?_
  exact k_vret dJxa1e45_init_da8c8_4 rfl ⟨rfl, rfl⟩
theorem w_ini1 {l : Launch} {G : kG} {h : kAH} (hl : l.stackTraces = false) {a : Nat} (hA : h a = some (.inr (3, [.int (iI 0), .null, .int (iI 0)]))) : kC l G m_Jxc12de_init_da8c8 2 0 0 [.ref a] h (fun v h' => v = none ∧ h' a = some (.inr (3, [.int (iI 0), .null, .int (iI 0)])) ∧ ∀ b, b ≠ a → h' b = h b) kNo := by
  refine kC_of hl rfl rfl (Nat.le_of_ble_eq_true rfl) (L := [some (.ref a)]) rfl ?_
  refine k_aload_n (pc1 := 1) dJxc12de_init_da8c8_0 rfl rfl ?_
  refine k_callI dJxc12de_init_da8c8_1 rfl lk_RJxc12de_1 o_Jxa1e45_init_da8c8 (as := []) rfl rfl (w_ini0 hl hA) (fun E h9 z => z.elim) (by decide) (by decide) (by decide) (by decide) (k8 rfl) (fun v h9 hv => ?_)
  obtain ⟨hv1, hv2⟩ := hv
  subst hv1
  rw [hv2]
  refine k_st (st' := []) rfl ?_
  refine k_aload_n (pc1 := 5) dJxc12de_init_da8c8_4 rfl rfl ?_
  refine k_iconst (pc1 := 6) dJxc12de_init_da8c8_5 rfl ?_
  refine k_put (kf := 0) (pc1 := 9) dJxc12de_init_da8c8_6 rfl fp_RJxc12de_7 (Or.inl rfl) hA (Nat.le_of_ble_eq_true rfl) rfl rfl ?_
  obtain ⟨h33, eh33⟩ : ∃ z, z = kup h a (.inr (3, [.int (iI 0), .null, .int (iI 0)])) := ⟨_, rfl⟩
  refine k_hp (h' := h33) eh33.symm ?_
  have hA33 : h33 a = some (.inr (3, [.int (iI 0), .null, .int (iI 0)])) := by rw [eh33]; exact kup_same _ _ _
  have hfr33 : ∀ b, b ≠ a → h33 b = h b := fun b hb => by rw [eh33]; exact kup_ne hb
  clear eh33
  exact k_vret dJxc12de_init_da8c8_9 rfl ⟨rfl, hA33, fun b hb => hfr33 b hb⟩
theorem w_lnew {l : Launch} {G : kG} {h : kAH} (hl : l.stackTraces = false) {a : Nat} (hA : h a = some (.inr (3, [.int (iI 0), .null, .int (iI 0)]))) : kC l G m_Jx4a65c_init_da8c8 3 0 0 [.ref a] h (fun v h' => v = none ∧ kLs G h' a G.2.2.2 0 [] ∧ ∀ b, b ≠ a → h' b = h b) kNo := by
  refine kC_of hl rfl rfl (Nat.le_of_ble_eq_true rfl) (L := [some (.ref a)]) rfl ?_
  refine k_aload_n (pc1 := 1) dJx4a65c_init_da8c8_0 rfl rfl ?_
  refine k_callI dJx4a65c_init_da8c8_1 rfl lk_RJx4a65c_1 o_Jxc12de_init_da8c8 (as := []) rfl rfl (w_ini1 hl hA) (fun E h9 z => z.elim) (by decide) (by decide) (by decide) (by decide) (k8 rfl) (fun v h9 hv => ?_)
  obtain ⟨hv1, hv2, hv3⟩ := hv
  subst hv1
  refine k_st (st' := []) rfl ?_
  refine k_aload_n (pc1 := 5) dJx4a65c_init_da8c8_4 rfl rfl ?_
  refine k_gets (pc1 := 8) dJx4a65c_init_da8c8_5 rfl gs_list ?_
  refine k_put (pc1 := 11) dJx4a65c_init_da8c8_8 rfl fp_RJx4a65c_9 (Or.inl rfl) hv2 (Nat.le_of_ble_eq_true rfl) rfl rfl ?_
  obtain ⟨h34, eh34⟩ : ∃ z, z = kup h9 a (.inr (3, [.int (iI 0), .ref G.2.2.2, .int (iI 0)])) := ⟨_, rfl⟩
  refine k_hp (h' := h34) eh34.symm ?_
  have hA34 : h34 a = some (.inr (3, [.int (iI 0), .ref G.2.2.2, .int (iI 0)])) := by rw [eh34]; exact kup_same _ _ _
  have hfr34 : ∀ b, b ≠ a → h34 b = h9 b := fun b hb => by rw [eh34]; exact kup_ne hb
  clear eh34
  exact k_vret dJx4a65c_init_da8c8_11 rfl ⟨rfl, ⟨⟨0, hA34⟩, Or.inl ⟨rfl, rfl, rfl⟩⟩, fun b hb => (hfr34 b hb).trans (hv3 b hb)⟩
def bc1 (x : Int32) : Int32 := x - ((x.toUInt32 >>> (Int32.toUInt32 (iI 1) &&& Int32.toUInt32 31)).toInt32 &&& 1431655765)
def bc2 (x : Int32) : Int32 := (x &&& 858993459) + ((x.toUInt32 >>> (Int32.toUInt32 (iI 2) &&& Int32.toUInt32 31)).toInt32 &&& 858993459)
def bc3 (x : Int32) : Int32 := (x + (x.toUInt32 >>> (Int32.toUInt32 (iI 4) &&& Int32.toUInt32 31)).toInt32) &&& 252645135
def bc4 (x : Int32) : Int32 := x + (x.toUInt32 >>> (Int32.toUInt32 (iI 8) &&& Int32.toUInt32 31)).toInt32
def bc5 (x : Int32) : Int32 := x + (x.toUInt32 >>> (Int32.toUInt32 (iI 16) &&& Int32.toUInt32 31)).toInt32
theorem bc_eq {a : Nat} (ha : a < 64) : bc5 (bc4 (bc3 (bc2 (bc1 (iI (a : Int)))))) &&& iI 63 = iI (kpo a 6) := by
  have h : ∀ a : Fin 64, bc5 (bc4 (bc3 (bc2 (bc1 (iI ((a : Nat) : Int)))))) &&& iI 63 = iI (kpo a 6) := by decide +kernel
  exact h ⟨a, ha⟩
theorem w_bitc {l : Launch} {G : kG} {h : kAH} (hl : l.stackTraces = false) (a : Nat) (ha : a < 64) : kP l G m_J6_bitCount_0f7a4 1 [.int (iI ((a : Nat) : Int))] h (.int (iI (kpo a 6))) := by
  refine kC_of hl rfl rfl (Nat.le_of_ble_eq_true rfl) (L := [some (.int (iI ((a : Nat) : Int)))]) rfl ?_
  refine k_iload_n (pc1 := 1) dJ6_bitCount_0f7a4_0 rfl rfl ?_
  refine k_iload_n (pc1 := 2) dJ6_bitCount_0f7a4_1 rfl rfl ?_
  refine k_iconst (pc1 := 3) dJ6_bitCount_0f7a4_2 rfl ?_
  refine k_iushr (pc1 := 4) dJ6_bitCount_0f7a4_3 rfl ?_
  refine k_ldcw (pc1 := 7) dJ6_bitCount_0f7a4_4 rfl kc_RJ6_265 ?_
  refine k_iand (pc1 := 8) dJ6_bitCount_0f7a4_7 rfl ?_
  refine k_isubR (pc1 := 9) dJ6_bitCount_0f7a4_8 rfl ?_
  refine k_istore_n (pc1 := 10) dJ6_bitCount_0f7a4_9 rfl (by decide) (k_loc (L' := [some (.int ((iI ((a : Nat) : Int)) - ((Int32.toUInt32 (iI ((a : Nat) : Int)) >>> (Int32.toUInt32 (iI 1) &&& Int32.toUInt32 31)).toInt32 &&& 1431655765)))]) rfl ?_)
  refine k_loc (L' := [some (.int (bc1 (iI (a : Int))))]) rfl ?_
  refine k_iload_n (pc1 := 11) dJ6_bitCount_0f7a4_10 rfl rfl ?_
  refine k_ldcw (pc1 := 14) dJ6_bitCount_0f7a4_11 rfl kc_RJ6_266 ?_
  refine k_iand (pc1 := 15) dJ6_bitCount_0f7a4_14 rfl ?_
  refine k_iload_n (pc1 := 16) dJ6_bitCount_0f7a4_15 rfl rfl ?_
  refine k_iconst (pc1 := 17) dJ6_bitCount_0f7a4_16 rfl ?_
  refine k_iushr (pc1 := 18) dJ6_bitCount_0f7a4_17 rfl ?_
  refine k_ldcw (pc1 := 21) dJ6_bitCount_0f7a4_18 rfl kc_RJ6_266 ?_
  refine k_iand (pc1 := 22) dJ6_bitCount_0f7a4_21 rfl ?_
  refine k_iaddR (pc1 := 23) dJ6_bitCount_0f7a4_22 rfl ?_
  refine k_istore_n (pc1 := 24) dJ6_bitCount_0f7a4_23 rfl (by decide) (k_loc (L' := [some (.int (((bc1 (iI (a : Int))) &&& 858993459) + ((Int32.toUInt32 (bc1 (iI (a : Int))) >>> (Int32.toUInt32 (iI 2) &&& Int32.toUInt32 31)).toInt32 &&& 858993459)))]) rfl ?_)
  refine k_loc (L' := [some (.int (bc2 (bc1 (iI (a : Int)))))]) rfl ?_
  refine k_iload_n (pc1 := 25) dJ6_bitCount_0f7a4_24 rfl rfl ?_
  refine k_iload_n (pc1 := 26) dJ6_bitCount_0f7a4_25 rfl rfl ?_
  refine k_iconst (pc1 := 27) dJ6_bitCount_0f7a4_26 rfl ?_
  refine k_iushr (pc1 := 28) dJ6_bitCount_0f7a4_27 rfl ?_
  refine k_iaddR (pc1 := 29) dJ6_bitCount_0f7a4_28 rfl ?_
  refine k_ldcw (pc1 := 32) dJ6_bitCount_0f7a4_29 rfl kc_RJ6_267 ?_
  refine k_iand (pc1 := 33) dJ6_bitCount_0f7a4_32 rfl ?_
  refine k_istore_n (pc1 := 34) dJ6_bitCount_0f7a4_33 rfl (by decide) (k_loc (L' := [some (.int (((bc2 (bc1 (iI (a : Int)))) + (Int32.toUInt32 (bc2 (bc1 (iI (a : Int)))) >>> (Int32.toUInt32 (iI 4) &&& Int32.toUInt32 31)).toInt32) &&& 252645135))]) rfl ?_)
  refine k_loc (L' := [some (.int (bc3 (bc2 (bc1 (iI (a : Int))))))]) rfl ?_
  refine k_iload_n (pc1 := 35) dJ6_bitCount_0f7a4_34 rfl rfl ?_
  refine k_iload_n (pc1 := 36) dJ6_bitCount_0f7a4_35 rfl rfl ?_
  refine k_bipush 8 (pc1 := 38) dJ6_bitCount_0f7a4_36 rfl (by decide) ?_
  refine k_iushr (pc1 := 39) dJ6_bitCount_0f7a4_38 rfl ?_
  refine k_iaddR (pc1 := 40) dJ6_bitCount_0f7a4_39 rfl ?_
  refine k_istore_n (pc1 := 41) dJ6_bitCount_0f7a4_40 rfl (by decide) (k_loc (L' := [some (.int ((bc3 (bc2 (bc1 (iI (a : Int))))) + (Int32.toUInt32 (bc3 (bc2 (bc1 (iI (a : Int))))) >>> (Int32.toUInt32 (iI 8) &&& Int32.toUInt32 31)).toInt32))]) rfl ?_)
  refine k_loc (L' := [some (.int (bc4 (bc3 (bc2 (bc1 (iI (a : Int)))))))]) rfl ?_
  refine k_iload_n (pc1 := 42) dJ6_bitCount_0f7a4_41 rfl rfl ?_
  refine k_iload_n (pc1 := 43) dJ6_bitCount_0f7a4_42 rfl rfl ?_
  refine k_bipush 16 (pc1 := 45) dJ6_bitCount_0f7a4_43 rfl (by decide) ?_
  refine k_iushr (pc1 := 46) dJ6_bitCount_0f7a4_45 rfl ?_
  refine k_iaddR (pc1 := 47) dJ6_bitCount_0f7a4_46 rfl ?_
  refine k_istore_n (pc1 := 48) dJ6_bitCount_0f7a4_47 rfl (by decide) (k_loc (L' := [some (.int ((bc4 (bc3 (bc2 (bc1 (iI (a : Int)))))) + (Int32.toUInt32 (bc4 (bc3 (bc2 (bc1 (iI (a : Int)))))) >>> (Int32.toUInt32 (iI 16) &&& Int32.toUInt32 31)).toInt32))]) rfl ?_)
  refine k_loc (L' := [some (.int (bc5 (bc4 (bc3 (bc2 (bc1 (iI (a : Int))))))))]) rfl ?_
  refine k_iload_n (pc1 := 49) dJ6_bitCount_0f7a4_48 rfl rfl ?_
  refine k_bipush 63 (pc1 := 51) dJ6_bitCount_0f7a4_49 rfl (by decide) ?_
  refine k_iand (pc1 := 52) dJ6_bitCount_0f7a4_51 rfl ?_
  refine k_val (v' := .int (iI (kpo a 6))) (congrArg Value.int (bc_eq ha)) ?_
  exact k_iret dJ6_bitCount_0f7a4_52 rfl rfl (kret rfl _)
