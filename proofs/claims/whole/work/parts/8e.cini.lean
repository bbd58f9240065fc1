/-! ===== constructors: the reference, rooms, days, the planner ===== -/
def f00 : Nat → Int := kiu (kiu (kiu (kiu (kiu (kiu (kiu (fun _ => 0) 0 1) 5 2) 6 3) 7 4) 8 6) 11 1) 12 1
theorem f00_0 : f00 0 = 1 ∧ f00 1 = 0 ∧ f00 2 = 0 ∧ f00 3 = 0 ∧ f00 4 = 0 := ⟨rfl, rfl, rfl, rfl, rfl⟩
theorem f00_r : ∀ r : Int, 0 ≤ r → r < 4 → 0 ≤ f00 (5 + r).toNat ∧ f00 (5 + r).toNat ≤ 6 ∧ 0 ≤ f00 (9 + r).toNat ∧ f00 (9 + r).toNat ≤ 1 := by
  intro r h0 h1
  have h : r = 0 ∨ r = 1 ∨ r = 2 ∨ r = 3 := by omega
  rcases h with rfl | rfl | rfl | rfl <;> exact ⟨by decide, by decide, by decide, by decide⟩
theorem wf_0 : kWf f00 := by
  obtain ⟨e0, e1, e2, e3, e4⟩ := f00_0
  refine ⟨by rw [e0]; decide, by rw [e1]; decide, by rw [e2]; decide, by rw [e3]; decide, by rw [e4]; decide, f00_r, ?_, ?_, ?_, ?_, ?_⟩
  · intro m m0 m1; rw [e1] at m1; omega
  · intro m p m0 m1; rw [e1] at m1; omega
  · intro m d m0 m1; rw [e1] at m1; omega
  · intro m m' m0 m1 m2; rw [e1] at m2; omega
  · intro m d m' d' m0 m1; rw [e1] at m1; omega
theorem w_modI {l : Launch} {G : kG} {h : kAH} (hl : l.stackTraces = false) {o : Nat} (hA : h o = some (.inr (10, [.null, .int (iI 0), .int (iI 0), .int (iI 0), .null]))) : kC l G m_X6_init 1 2 386 [.ref o] h (fun v h' => v = none ∧ ∃ g r : Nat, kMd G h' o g r 0 (-1) (-1) f00 ∧ h g = none ∧ h r = none ∧ ∀ b, b ≠ o → b ≠ g → b ≠ r → h' b = h b) kNo := by
  refine kC_of hl rfl rfl (Nat.le_of_ble_eq_true rfl) (L := [some (.ref o)]) rfl ?_
  refine k_aload_n (pc1 := 1) dX6_init_0 rfl rfl ?_
  refine k_objInit (pc1 := 4) dX6_init_1 rfl lk_RX6_1 oi_inst oi_code (k8 rfl) ?_
  refine k_aload_n (pc1 := 5) dX6_init_4 rfl rfl ?_
  refine k_sipush 380 (pc1 := 8) dX6_init_5 rfl (by decide) ?_
  refine k_newI (pc1 := 10) (z := 380) (N := 380) dX6_init_8 rfl aw_int rfl (by decide) (by decide) (by decide) (fun q64 hq64 => ?_)
  obtain ⟨h64, eh64⟩ : ∃ z, z = kup h q64 (kio G 380 (fun _ => 0)) := ⟨_, rfl⟩
  refine k_hp (h' := h64) eh64.symm ?_
  have hA64 : h64 q64 = some (kio G 380 (fun _ => 0)) := by rw [eh64]; exact kup_same _ _ _
  have hfr64 : ∀ b, b ≠ q64 → h64 b = h b := fun b hb => by rw [eh64]; exact kup_ne hb
  clear eh64
  have hne64_o := kne_new hA hq64
  have hC64_o := (hfr64 _ hne64_o).trans hA
  refine k_put (pc1 := 13) dX6_init_10 rfl fp_RX6_7 (Or.inr rfl) hC64_o (Nat.le_of_ble_eq_true rfl) rfl rfl ?_
  obtain ⟨h65, eh65⟩ : ∃ z, z = kup h64 o (.inr (10, [.ref q64, .int (iI 0), .int (iI 0), .int (iI 0), .null])) := ⟨_, rfl⟩
  refine k_hp (h' := h65) eh65.symm ?_
  have hA65 : h65 o = some (.inr (10, [.ref q64, .int (iI 0), .int (iI 0), .int (iI 0), .null])) := by rw [eh65]; exact kup_same _ _ _
  have hfr65 : ∀ b, b ≠ o → h65 b = h64 b := fun b hb => by rw [eh65]; exact kup_ne hb
  clear eh65
  have hC65_q64 := (hfr65 _ (Ne.symm hne64_o)).trans hA64
  refine k_aload_n (pc1 := 14) dX6_init_13 rfl rfl ?_
  refine k_iconst (pc1 := 15) dX6_init_14 rfl ?_
  refine k_put (pc1 := 18) dX6_init_15 rfl fp_RX6_13 (Or.inl rfl) hA65 (Nat.le_of_ble_eq_true rfl) rfl rfl ?_
  obtain ⟨h66, eh66⟩ : ∃ z, z = kup h65 o (.inr (10, [.ref q64, .int (iI 0), .int (iI (-1)), .int (iI 0), .null])) := ⟨_, rfl⟩
  refine k_hp (h' := h66) eh66.symm ?_
  have hA66 : h66 o = some (.inr (10, [.ref q64, .int (iI 0), .int (iI (-1)), .int (iI 0), .null])) := by rw [eh66]; exact kup_same _ _ _
  have hfr66 : ∀ b, b ≠ o → h66 b = h65 b := fun b hb => by rw [eh66]; exact kup_ne hb
  clear eh66
  have hC66_q64 := (hfr66 _ (Ne.symm hne64_o)).trans hC65_q64
  refine k_aload_n (pc1 := 19) dX6_init_18 rfl rfl ?_
  refine k_iconst (pc1 := 20) dX6_init_19 rfl ?_
  refine k_put (pc1 := 23) dX6_init_20 rfl fp_RX6_17 (Or.inl rfl) hA66 (Nat.le_of_ble_eq_true rfl) rfl rfl ?_
  obtain ⟨h67, eh67⟩ : ∃ z, z = kup h66 o (.inr (10, [.ref q64, .int (iI 0), .int (iI (-1)), .int (iI (-1)), .null])) := ⟨_, rfl⟩
  refine k_hp (h' := h67) eh67.symm ?_
  have hA67 : h67 o = some (.inr (10, [.ref q64, .int (iI 0), .int (iI (-1)), .int (iI (-1)), .null])) := by rw [eh67]; exact kup_same _ _ _
  have hfr67 : ∀ b, b ≠ o → h67 b = h66 b := fun b hb => by rw [eh67]; exact kup_ne hb
  clear eh67
  have hC67_q64 := (hfr67 _ (Ne.symm hne64_o)).trans hC66_q64
  refine k_aload_n (pc1 := 24) dX6_init_23 rfl rfl ?_
  refine k_bipush 6 (pc1 := 26) dX6_init_24 rfl (by decide) ?_
  refine k_newI (pc1 := 28) (z := 6) (N := 6) dX6_init_26 rfl aw_int rfl (by decide) (by decide) (by decide) (fun q68 hq68 => ?_)
  obtain ⟨h68, eh68⟩ : ∃ z, z = kup h67 q68 (kio G 6 (fun _ => 0)) := ⟨_, rfl⟩
  refine k_hp (h' := h68) eh68.symm ?_
  have hA68 : h68 q68 = some (kio G 6 (fun _ => 0)) := by rw [eh68]; exact kup_same _ _ _
  have hfr68 : ∀ b, b ≠ q68 → h68 b = h67 b := fun b hb => by rw [eh68]; exact kup_ne hb
  clear eh68
  have hne68_o := kne_new hA67 hq68
  have hC68_o := (hfr68 _ hne68_o).trans hA67
  have hne68_q64 := kne_new hC67_q64 hq68
  have hC68_q64 := (hfr68 _ hne68_q64).trans hC67_q64
  have hz_q64 : q68 ≠ q64 := Ne.symm hne68_q64
  have hz_o : q68 ≠ o := Ne.symm hne68_o
  refine k_put (pc1 := 31) dX6_init_28 rfl fp_RX6_20 (Or.inr rfl) hC68_o (Nat.le_of_ble_eq_true rfl) rfl rfl ?_
  obtain ⟨h69, eh69⟩ : ∃ z, z = kup h68 o (.inr (10, [.ref q64, .int (iI 0), .int (iI (-1)), .int (iI (-1)), .ref q68])) := ⟨_, rfl⟩
  refine k_hp (h' := h69) eh69.symm ?_
  have hA69 : h69 o = some (.inr (10, [.ref q64, .int (iI 0), .int (iI (-1)), .int (iI (-1)), .ref q68])) := by rw [eh69]; exact kup_same _ _ _
  have hfr69 : ∀ b, b ≠ o → h69 b = h68 b := fun b hb => by rw [eh69]; exact kup_ne hb
  clear eh69
  have hC69_q64 := (hfr69 _ (Ne.symm hne64_o)).trans hC68_q64
  have hC69_q68 := (hfr69 _ (Ne.symm hne68_o)).trans hA68
  refine k_aload_n (pc1 := 32) dX6_init_31 rfl rfl ?_
  refine k_get (pc1 := 35) dX6_init_32 rfl fd_RX6_7 hA69 (v := .ref q64) rfl ?_
  refine k_iconst (pc1 := 36) dX6_init_35 rfl ?_
  refine k_iconst (pc1 := 37) dX6_init_36 rfl ?_
  refine k_iast (i := 0) (x := 1) (pc1 := 38) dX6_init_37 rfl hC69_q64 (by decide) (by decide) (by decide) ?_
  obtain ⟨h70, eh70⟩ : ∃ z, z = kup h69 q64 (kio G 380 (kiu (fun _ => 0) 0 1)) := ⟨_, rfl⟩
  refine k_hp (h' := h70) eh70.symm ?_
  have hA70 : h70 q64 = some (kio G 380 (kiu (fun _ => 0) 0 1)) := by rw [eh70]; exact kup_same _ _ _
  have hfr70 : ∀ b, b ≠ q64 → h70 b = h69 b := fun b hb => by rw [eh70]; exact kup_ne hb
  clear eh70
  have hC70_o := (hfr70 _ hne64_o).trans hA69
  have hC70_q68 := (hfr70 _ (Ne.symm hne68_q64)).trans hC69_q68
  refine k_aload_n (pc1 := 39) dX6_init_38 rfl rfl ?_
  refine k_get (pc1 := 42) dX6_init_39 rfl fd_RX6_7 hC70_o (v := .ref q64) rfl ?_
  refine k_iconst (pc1 := 43) dX6_init_42 rfl ?_
  refine k_iconst (pc1 := 44) dX6_init_43 rfl ?_
  refine k_iast (i := 5) (x := 2) (pc1 := 45) dX6_init_44 rfl hA70 (by decide) (by decide) (by decide) ?_
  obtain ⟨h71, eh71⟩ : ∃ z, z = kup h70 q64 (kio G 380 (kiu (kiu (fun _ => 0) 0 1) 5 2)) := ⟨_, rfl⟩
  refine k_hp (h' := h71) eh71.symm ?_
  have hA71 : h71 q64 = some (kio G 380 (kiu (kiu (fun _ => 0) 0 1) 5 2)) := by rw [eh71]; exact kup_same _ _ _
  have hfr71 : ∀ b, b ≠ q64 → h71 b = h70 b := fun b hb => by rw [eh71]; exact kup_ne hb
  clear eh71
  have hC71_o := (hfr71 _ hne64_o).trans hC70_o
  have hC71_q68 := (hfr71 _ (Ne.symm hne68_q64)).trans hC70_q68
  refine k_aload_n (pc1 := 46) dX6_init_45 rfl rfl ?_
  refine k_get (pc1 := 49) dX6_init_46 rfl fd_RX6_7 hC71_o (v := .ref q64) rfl ?_
  refine k_bipush 6 (pc1 := 51) dX6_init_49 rfl (by decide) ?_
  refine k_iconst (pc1 := 52) dX6_init_51 rfl ?_
  refine k_iast (i := 6) (x := 3) (pc1 := 53) dX6_init_52 rfl hA71 (by decide) (by decide) (by decide) ?_
  obtain ⟨h72, eh72⟩ : ∃ z, z = kup h71 q64 (kio G 380 (kiu (kiu (kiu (fun _ => 0) 0 1) 5 2) 6 3)) := ⟨_, rfl⟩
  refine k_hp (h' := h72) eh72.symm ?_
  have hA72 : h72 q64 = some (kio G 380 (kiu (kiu (kiu (fun _ => 0) 0 1) 5 2) 6 3)) := by rw [eh72]; exact kup_same _ _ _
  have hfr72 : ∀ b, b ≠ q64 → h72 b = h71 b := fun b hb => by rw [eh72]; exact kup_ne hb
  clear eh72
  have hC72_o := (hfr72 _ hne64_o).trans hC71_o
  have hC72_q68 := (hfr72 _ (Ne.symm hne68_q64)).trans hC71_q68
  refine k_aload_n (pc1 := 54) dX6_init_53 rfl rfl ?_
  refine k_get (pc1 := 57) dX6_init_54 rfl fd_RX6_7 hC72_o (v := .ref q64) rfl ?_
  refine k_bipush 7 (pc1 := 59) dX6_init_57 rfl (by decide) ?_
  refine k_iconst (pc1 := 60) dX6_init_59 rfl ?_
  refine k_iast (i := 7) (x := 4) (pc1 := 61) dX6_init_60 rfl hA72 (by decide) (by decide) (by decide) ?_
  obtain ⟨h73, eh73⟩ : ∃ z, z = kup h72 q64 (kio G 380 (kiu (kiu (kiu (kiu (fun _ => 0) 0 1) 5 2) 6 3) 7 4)) := ⟨_, rfl⟩
  refine k_hp (h' := h73) eh73.symm ?_
  have hA73 : h73 q64 = some (kio G 380 (kiu (kiu (kiu (kiu (fun _ => 0) 0 1) 5 2) 6 3) 7 4)) := by rw [eh73]; exact kup_same _ _ _
  have hfr73 : ∀ b, b ≠ q64 → h73 b = h72 b := fun b hb => by rw [eh73]; exact kup_ne hb
  clear eh73
  have hC73_o := (hfr73 _ hne64_o).trans hC72_o
  have hC73_q68 := (hfr73 _ (Ne.symm hne68_q64)).trans hC72_q68
  refine k_aload_n (pc1 := 62) dX6_init_61 rfl rfl ?_
  refine k_get (pc1 := 65) dX6_init_62 rfl fd_RX6_7 hC73_o (v := .ref q64) rfl ?_
  refine k_bipush 8 (pc1 := 67) dX6_init_65 rfl (by decide) ?_
  refine k_bipush 6 (pc1 := 69) dX6_init_67 rfl (by decide) ?_
  refine k_iast (i := 8) (x := 6) (pc1 := 70) dX6_init_69 rfl hA73 (by decide) (by decide) (by decide) ?_
  obtain ⟨h74, eh74⟩ : ∃ z, z = kup h73 q64 (kio G 380 (kiu (kiu (kiu (kiu (kiu (fun _ => 0) 0 1) 5 2) 6 3) 7 4) 8 6)) := ⟨_, rfl⟩
  refine k_hp (h' := h74) eh74.symm ?_
  have hA74 : h74 q64 = some (kio G 380 (kiu (kiu (kiu (kiu (kiu (fun _ => 0) 0 1) 5 2) 6 3) 7 4) 8 6)) := by rw [eh74]; exact kup_same _ _ _
  have hfr74 : ∀ b, b ≠ q64 → h74 b = h73 b := fun b hb => by rw [eh74]; exact kup_ne hb
  clear eh74
  have hC74_o := (hfr74 _ hne64_o).trans hC73_o
  have hC74_q68 := (hfr74 _ (Ne.symm hne68_q64)).trans hC73_q68
  refine k_aload_n (pc1 := 71) dX6_init_70 rfl rfl ?_
  refine k_get (pc1 := 74) dX6_init_71 rfl fd_RX6_7 hC74_o (v := .ref q64) rfl ?_
  refine k_bipush 11 (pc1 := 76) dX6_init_74 rfl (by decide) ?_
  refine k_iconst (pc1 := 77) dX6_init_76 rfl ?_
  refine k_iast (i := 11) (x := 1) (pc1 := 78) dX6_init_77 rfl hA74 (by decide) (by decide) (by decide) ?_
  obtain ⟨h75, eh75⟩ : ∃ z, z = kup h74 q64 (kio G 380 (kiu (kiu (kiu (kiu (kiu (kiu (fun _ => 0) 0 1) 5 2) 6 3) 7 4) 8 6) 11 1)) := ⟨_, rfl⟩
  refine k_hp (h' := h75) eh75.symm ?_
  have hA75 : h75 q64 = some (kio G 380 (kiu (kiu (kiu (kiu (kiu (kiu (fun _ => 0) 0 1) 5 2) 6 3) 7 4) 8 6) 11 1)) := by rw [eh75]; exact kup_same _ _ _
  have hfr75 : ∀ b, b ≠ q64 → h75 b = h74 b := fun b hb => by rw [eh75]; exact kup_ne hb
  clear eh75
  have hC75_o := (hfr75 _ hne64_o).trans hC74_o
  have hC75_q68 := (hfr75 _ (Ne.symm hne68_q64)).trans hC74_q68
  refine k_aload_n (pc1 := 79) dX6_init_78 rfl rfl ?_
  refine k_get (pc1 := 82) dX6_init_79 rfl fd_RX6_7 hC75_o (v := .ref q64) rfl ?_
  refine k_bipush 12 (pc1 := 84) dX6_init_82 rfl (by decide) ?_
  refine k_iconst (pc1 := 85) dX6_init_84 rfl ?_
  refine k_iast (i := 12) (x := 1) (pc1 := 86) dX6_init_85 rfl hA75 (by decide) (by decide) (by decide) ?_
  obtain ⟨h76, eh76⟩ : ∃ z, z = kup h75 q64 (kio G 380 (kiu (kiu (kiu (kiu (kiu (kiu (kiu (fun _ => 0) 0 1) 5 2) 6 3) 7 4) 8 6) 11 1) 12 1)) := ⟨_, rfl⟩
  refine k_hp (h' := h76) eh76.symm ?_
  have hA76 : h76 q64 = some (kio G 380 (kiu (kiu (kiu (kiu (kiu (kiu (kiu (fun _ => 0) 0 1) 5 2) 6 3) 7 4) 8 6) 11 1) 12 1)) := by rw [eh76]; exact kup_same _ _ _
  have hfr76 : ∀ b, b ≠ q64 → h76 b = h75 b := fun b hb => by rw [eh76]; exact kup_ne hb
  clear eh76
  have hC76_o := (hfr76 _ hne64_o).trans hC75_o
  have hC76_q68 := (hfr76 _ (Ne.symm hne68_q64)).trans hC75_q68
  skip
  exact k_vret dX6_init_86 rfl ⟨rfl, q64, q68, ⟨hC76_o, hA76, _, hC76_q68⟩, hq64, ((hfr67 q68 hz_o).trans ((hfr66 q68 hz_o).trans ((hfr65 q68 hz_o).trans (hfr64 q68 hz_q64)))).symm.trans hq68, fun b hb hb2 hb3 => (hfr76 b hb2).trans ((hfr75 b hb2).trans ((hfr74 b hb2).trans ((hfr73 b hb2).trans ((hfr72 b hb2).trans ((hfr71 b hb2).trans ((hfr70 b hb2).trans ((hfr69 b hb).trans ((hfr68 b hb3).trans ((hfr67 b hb).trans ((hfr66 b hb).trans ((hfr65 b hb).trans (hfr64 b hb2))))))))))))⟩
theorem w_thr {l : Launch} {G : kG} {h : kAH} (hl : l.stackTraces = false) {o g r : Nat} {c wm wd : Int} {f : Nat → Int} (hM : kMd G h o g r c wm wd f) : kC l G m_X6_thrown 1 0 0 [.ref o] h (kPq (.int (iI c)) h) kNo := by
  refine kC_of hl rfl rfl (Nat.le_of_ble_eq_true rfl) (L := [some (.ref o)]) rfl ?_
  refine k_aload_n (pc1 := 1) dX6_thrown_0 rfl rfl ?_
  refine k_get (pc1 := 4) dX6_thrown_1 rfl fd_RX6_23 hM.1 (v := .int (iI c)) rfl ?_
  exact k_iret dX6_thrown_4 rfl rfl (kret rfl _)
theorem w_roomI {l : Launch} {G : kG} {h : kAH} (hl : l.stackTraces = false) {a : Nat} {x1 x2 x3 : Int} (hA : h a = some (.inr (7, [.int (iI 0), .int (iI 0), .int (iI 0)]))) : kC l G m_X3_init 1 0 0 [.ref a, .int (iI x1), .int (iI x2), .int (iI x3)] h (fun v h' => v = none ∧ h' a = some (.inr (7, [.int (iI x1), .int (iI x2), .int (iI x3)])) ∧ ∀ b, b ≠ a → h' b = h b) kNo := by
  refine kC_of hl rfl rfl (Nat.le_of_ble_eq_true rfl) (L := [some (.ref a), some (.int (iI x1)), some (.int (iI x2)), some (.int (iI x3))]) rfl ?_
  refine k_aload_n (pc1 := 1) dX3_init_0 rfl rfl ?_
  refine k_objInit (pc1 := 4) dX3_init_1 rfl lk_RX3_1 oi_inst oi_code (k8 rfl) ?_
  refine k_aload_n (pc1 := 5) dX3_init_4 rfl rfl ?_
  refine k_iload_n (pc1 := 6) dX3_init_5 rfl rfl ?_
  refine k_put (pc1 := 9) dX3_init_6 rfl fp_RX3_7 (Or.inr rfl) hA (Nat.le_of_ble_eq_true rfl) rfl rfl ?_
  obtain ⟨h77, eh77⟩ : ∃ z, z = kup h a (.inr (7, [.int (iI x1), .int (iI 0), .int (iI 0)])) := ⟨_, rfl⟩
  refine k_hp (h' := h77) eh77.symm ?_
  have hA77 : h77 a = some (.inr (7, [.int (iI x1), .int (iI 0), .int (iI 0)])) := by rw [eh77]; exact kup_same _ _ _
  have hfr77 : ∀ b, b ≠ a → h77 b = h b := fun b hb => by rw [eh77]; exact kup_ne hb
  clear eh77
  refine k_aload_n (pc1 := 10) dX3_init_9 rfl rfl ?_
  refine k_iload_n (pc1 := 11) dX3_init_10 rfl rfl ?_
  refine k_put (pc1 := 14) dX3_init_11 rfl fp_RX3_13 (Or.inl rfl) hA77 (Nat.le_of_ble_eq_true rfl) rfl rfl ?_
  obtain ⟨h78, eh78⟩ : ∃ z, z = kup h77 a (.inr (7, [.int (iI x1), .int (iI x2), .int (iI 0)])) := ⟨_, rfl⟩
  refine k_hp (h' := h78) eh78.symm ?_
  have hA78 : h78 a = some (.inr (7, [.int (iI x1), .int (iI x2), .int (iI 0)])) := by rw [eh78]; exact kup_same _ _ _
  have hfr78 : ∀ b, b ≠ a → h78 b = h77 b := fun b hb => by rw [eh78]; exact kup_ne hb
  clear eh78
  refine k_aload_n (pc1 := 15) dX3_init_14 rfl rfl ?_
  refine k_iload_n (pc1 := 16) dX3_init_15 rfl rfl ?_
  refine k_put (pc1 := 19) dX3_init_16 rfl fp_RX3_16 (Or.inl rfl) hA78 (Nat.le_of_ble_eq_true rfl) rfl rfl ?_
  obtain ⟨h79, eh79⟩ : ∃ z, z = kup h78 a (.inr (7, [.int (iI x1), .int (iI x2), .int (iI x3)])) := ⟨_, rfl⟩
  refine k_hp (h' := h79) eh79.symm ?_
  have hA79 : h79 a = some (.inr (7, [.int (iI x1), .int (iI x2), .int (iI x3)])) := by rw [eh79]; exact kup_same _ _ _
  have hfr79 : ∀ b, b ≠ a → h79 b = h78 b := fun b hb => by rw [eh79]; exact kup_ne hb
  clear eh79
  exact k_vret dX3_init_19 rfl ⟨rfl, hA79, fun b hb => (hfr79 b hb).trans ((hfr78 b hb).trans (hfr77 b hb))⟩
theorem w_dayI {l : Launch} {G : kG} {h : kAH} (hl : l.stackTraces = false) {a : Nat} (hA : h a = some (.inr (5, [.null]))) : kC l G m_X1_init 4 1 3 [.ref a] h (fun v h' => v = none ∧ ∃ q : Nat, h q = none ∧ h' a = some (.inr (5, [.ref q])) ∧ kLs G h' q G.2.2.2 0 [] ∧ ∀ b, b ≠ a → b ≠ q → h' b = h b) kNo := by
  refine kC_of hl rfl rfl (Nat.le_of_ble_eq_true rfl) (L := [some (.ref a)]) rfl ?_
  refine k_aload_n (pc1 := 1) dX1_init_0 rfl rfl ?_
  refine k_objInit (pc1 := 4) dX1_init_1 rfl lk_RX1_1 oi_inst oi_code (k8 rfl) ?_
  refine k_aload_n (pc1 := 5) dX1_init_4 rfl rfl ?_
  refine k_new (pc1 := 8) dX1_init_5 rfl nw_RX1_7 (by omega) (by omega) (fun q hq => ?_)
  refine k_dup (pc1 := 9) dX1_init_8 rfl rfl ?_
  refine k_callI dX1_init_9 rfl lk_RX1_9 o_Jx4a65c_init_da8c8 (as := []) rfl rfl (w_lnew hl (kup_same _ _ _)) (fun E h9 z => z.elim) (by decide) (by decide) (Nat.zero_le _) (Nat.zero_le _) (k8 rfl) (fun v hN hv => ?_)
  obtain ⟨hv1, hLN, hv3⟩ := hv
  subst hv1
  refine k_st (st' := [.ref q, .ref a]) rfl ?_
  have hfN : ∀ b, b ≠ q → hN b = h b := fun b hb => (hv3 b hb).trans (kup_ne hb)
  have hXN : kXt h hN := fun b e z => (hfN b (kne_new z hq)).trans z
  clear hv3
  have hAN := hXN _ _ hA
  have hqa : q ≠ a := fun z => by rw [z, hA] at hq; cases hq
  refine k_put (pc1 := 15) dX1_init_12 rfl fp_RX1_10 (Or.inr rfl) hAN (Nat.le_of_ble_eq_true rfl) rfl rfl ?_
  obtain ⟨h80, eh80⟩ : ∃ z, z = kup hN a (.inr (5, [.ref q])) := ⟨_, rfl⟩
  refine k_hp (h' := h80) eh80.symm ?_
  have hA80 : h80 a = some (.inr (5, [.ref q])) := by rw [eh80]; exact kup_same _ _ _
  have hfr80 : ∀ b, b ≠ a → h80 b = hN b := fun b hb => by rw [eh80]; exact kup_ne hb
  clear eh80
  obtain ⟨⟨mcq, hq1⟩, hq2⟩ := hLN
  exact k_vret dX1_init_15 rfl ⟨rfl, q, hq, hA80, ⟨⟨mcq, (hfr80 _ hqa).trans hq1⟩, Or.inl ⟨rfl, rfl, rfl⟩⟩, fun b hb hb2 => (hfr80 b hb).trans (hfN b hb2)⟩
