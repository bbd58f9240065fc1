/-! ===== the planner made: the walk ===== -/
theorem w_planI {l : Launch} {G : kG} {h : kAH} (hl : l.stackTraces = false) {a : Nat} (hA : h a = some (.inr (9, [.null, .null, .null, .int (iI 0), .int (iI 0), .int (iI 0), .int (iI 0)]))) : kC l G m_X5_init 5 70 200 [.ref a] h (fun v h' => v = none ∧ ∃ (γ : kGh) (A : kAb), kRp G h' a γ A f00 ∧ ∀ (b : Nat) (e : va_E), h b = some e → b ≠ a → h' b = some e ∧ gOw γ b = (0, 0)) kNo := by
  refine kC_of hl rfl rfl (Nat.le_of_ble_eq_true rfl) (L := [some (.ref a), none]) rfl ?_
  refine k_aload_n (pc1 := 1) dX5_init_0 rfl rfl ?_
  refine k_objInit (pc1 := 4) dX5_init_1 rfl lk_RX5_1 oi_inst oi_code (k8 rfl) ?_
  refine k_aload_n (pc1 := 5) dX5_init_4 rfl rfl ?_
  refine k_iconst (pc1 := 6) dX5_init_5 rfl ?_
  refine k_newR 5 (pc1 := 9) (z := 4) (N := 4) dX5_init_6 rfl cl_RX5_7 rfl (by decide) rfl (by decide) (by omega) (by omega) (fun q81 hq81 => ?_)
  obtain ⟨h81, eh81⟩ : ∃ z, z = kup h q81 (kro G 5 4 (fun _ => none)) := ⟨_, rfl⟩
  refine k_hp (h' := h81) eh81.symm ?_
  have hA81 : h81 q81 = some (kro G 5 4 (fun _ => none)) := by rw [eh81]; exact kup_same _ _ _
  have hfr81 : ∀ b, b ≠ q81 → h81 b = h b := fun b hb => by rw [eh81]; exact kup_ne hb
  clear eh81
  have hne81_a := kne_new hA hq81
  have hC81_a := (hfr81 _ hne81_a).trans hA
  have hn_q81 : h q81 = none := hq81
  refine k_dup (pc1 := 10) dX5_init_9 rfl rfl ?_
  refine k_iconst (pc1 := 11) dX5_init_10 rfl ?_
  refine k_new (pc1 := 14) dX5_init_11 rfl nw_RX5_7 (by decide) (by decide) (fun q82 hq82 => ?_)
  obtain ⟨h82, eh82⟩ : ∃ z, z = kup h81 q82 (.inr (7, [.int (iI 0), .int (iI 0), .int (iI 0)])) := ⟨_, rfl⟩
  refine k_hp (h' := h82) eh82.symm ?_
  have hA82 : h82 q82 = some (.inr (7, [.int (iI 0), .int (iI 0), .int (iI 0)])) := by rw [eh82]; exact kup_same _ _ _
  have hfr82 : ∀ b, b ≠ q82 → h82 b = h81 b := fun b hb => by rw [eh82]; exact kup_ne hb
  clear eh82
  have hne82_a := kne_new hC81_a hq82
  have hC82_a := (hfr82 _ hne82_a).trans hC81_a
  have hne82_q81 := kne_new hA81 hq82
  have hC82_q81 := (hfr82 _ hne82_q81).trans hA81
  have hz82_q81 : q82 ≠ q81 := Ne.symm hne82_q81
  have hn_q82 : h q82 = none := (hfr81 q82 hz82_q81).symm.trans hq82
  refine k_dup (pc1 := 15) dX5_init_14 rfl rfl ?_
  refine k_iconst (pc1 := 16) dX5_init_15 rfl ?_
  refine k_iconst (pc1 := 17) dX5_init_16 rfl ?_
  refine k_iconst (pc1 := 18) dX5_init_17 rfl ?_
  refine k_callI dX5_init_18 rfl lk_RX5_9 o_X3_init (as := [.int (iI 0), .int (iI 2), .int (iI 0)]) rfl rfl (w_roomI hl hA82) (fun E h9 z => z.elim) (by decide) (by decide) (by decide) (by decide) (k8 rfl) (fun v h83 hv => ?_)
  obtain ⟨hv1, hA83, hfr83⟩ := hv
  subst hv1
  refine k_st (st' := [.ref q82, .int (iI 0), .ref q81, .ref q81, .ref a]) rfl ?_
  have hC83_a := (hfr83 _ hne82_a).trans hC82_a
  have hC83_q81 := (hfr83 _ hne82_q81).trans hC82_q81
  refine k_aast (i := 0) (pc1 := 22) dX5_init_21 rfl hC83_q81 (j := 5) rfl hA83 rfl (Or.inl rfl) (by omega) (by omega) (by decide) ?_
  obtain ⟨h84, eh84⟩ : ∃ z, z = kup h83 q81 (kro G 5 4 (va_up (fun _ => none) 0 (some q82))) := ⟨_, rfl⟩
  refine k_hp (h' := h84) eh84.symm ?_
  have hA84 : h84 q81 = some (kro G 5 4 (va_up (fun _ => none) 0 (some q82))) := by rw [eh84]; exact kup_same _ _ _
  have hfr84 : ∀ b, b ≠ q81 → h84 b = h83 b := fun b hb => by rw [eh84]; exact kup_ne hb
  clear eh84
  have hC84_a := (hfr84 _ hne81_a).trans hC83_a
  have hC84_q82 := (hfr84 _ (Ne.symm hne82_q81)).trans hA83
  refine k_dup (pc1 := 23) dX5_init_22 rfl rfl ?_
  refine k_iconst (pc1 := 24) dX5_init_23 rfl ?_
  refine k_new (pc1 := 27) dX5_init_24 rfl nw_RX5_7 (by decide) (by decide) (fun q85 hq85 => ?_)
  obtain ⟨h85, eh85⟩ : ∃ z, z = kup h84 q85 (.inr (7, [.int (iI 0), .int (iI 0), .int (iI 0)])) := ⟨_, rfl⟩
  refine k_hp (h' := h85) eh85.symm ?_
  have hA85 : h85 q85 = some (.inr (7, [.int (iI 0), .int (iI 0), .int (iI 0)])) := by rw [eh85]; exact kup_same _ _ _
  have hfr85 : ∀ b, b ≠ q85 → h85 b = h84 b := fun b hb => by rw [eh85]; exact kup_ne hb
  clear eh85
  have hne85_a := kne_new hC84_a hq85
  have hC85_a := (hfr85 _ hne85_a).trans hC84_a
  have hne85_q82 := kne_new hC84_q82 hq85
  have hC85_q82 := (hfr85 _ hne85_q82).trans hC84_q82
  have hne85_q81 := kne_new hA84 hq85
  have hC85_q81 := (hfr85 _ hne85_q81).trans hA84
  have hz85_q81 : q85 ≠ q81 := Ne.symm hne85_q81
  have hz85_q82 : q85 ≠ q82 := Ne.symm hne85_q82
  have hn_q85 : h q85 = none := ((hfr84 q85 hz85_q81).trans ((hfr83 q85 hz85_q82).trans ((hfr82 q85 hz85_q82).trans (hfr81 q85 hz85_q81)))).symm.trans hq85
  refine k_dup (pc1 := 28) dX5_init_27 rfl rfl ?_
  refine k_iconst (pc1 := 29) dX5_init_28 rfl ?_
  refine k_iconst (pc1 := 30) dX5_init_29 rfl ?_
  refine k_iconst (pc1 := 31) dX5_init_30 rfl ?_
  refine k_callI dX5_init_31 rfl lk_RX5_9 o_X3_init (as := [.int (iI 1), .int (iI 3), .int (iI 0)]) rfl rfl (w_roomI hl hA85) (fun E h9 z => z.elim) (by decide) (by decide) (by decide) (by decide) (k8 rfl) (fun v h86 hv => ?_)
  obtain ⟨hv1, hA86, hfr86⟩ := hv
  subst hv1
  refine k_st (st' := [.ref q85, .int (iI 1), .ref q81, .ref q81, .ref a]) rfl ?_
  have hC86_a := (hfr86 _ hne85_a).trans hC85_a
  have hC86_q82 := (hfr86 _ hne85_q82).trans hC85_q82
  have hC86_q81 := (hfr86 _ hne85_q81).trans hC85_q81
  refine k_aast (i := 1) (pc1 := 35) dX5_init_34 rfl hC86_q81 (j := 5) rfl hA86 rfl (Or.inl rfl) (by omega) (by omega) (by decide) ?_
  obtain ⟨h87, eh87⟩ : ∃ z, z = kup h86 q81 (kro G 5 4 (va_up (va_up (fun _ => none) 0 (some q82)) 1 (some q85))) := ⟨_, rfl⟩
  refine k_hp (h' := h87) eh87.symm ?_
  have hA87 : h87 q81 = some (kro G 5 4 (va_up (va_up (fun _ => none) 0 (some q82)) 1 (some q85))) := by rw [eh87]; exact kup_same _ _ _
  have hfr87 : ∀ b, b ≠ q81 → h87 b = h86 b := fun b hb => by rw [eh87]; exact kup_ne hb
  clear eh87
  have hC87_a := (hfr87 _ hne81_a).trans hC86_a
  have hC87_q82 := (hfr87 _ (Ne.symm hne82_q81)).trans hC86_q82
  have hC87_q85 := (hfr87 _ (Ne.symm hne85_q81)).trans hA86
  refine k_dup (pc1 := 36) dX5_init_35 rfl rfl ?_
  refine k_iconst (pc1 := 37) dX5_init_36 rfl ?_
  refine k_new (pc1 := 40) dX5_init_37 rfl nw_RX5_7 (by decide) (by decide) (fun q88 hq88 => ?_)
  obtain ⟨h88, eh88⟩ : ∃ z, z = kup h87 q88 (.inr (7, [.int (iI 0), .int (iI 0), .int (iI 0)])) := ⟨_, rfl⟩
  refine k_hp (h' := h88) eh88.symm ?_
  have hA88 : h88 q88 = some (.inr (7, [.int (iI 0), .int (iI 0), .int (iI 0)])) := by rw [eh88]; exact kup_same _ _ _
  have hfr88 : ∀ b, b ≠ q88 → h88 b = h87 b := fun b hb => by rw [eh88]; exact kup_ne hb
  clear eh88
  have hne88_a := kne_new hC87_a hq88
  have hC88_a := (hfr88 _ hne88_a).trans hC87_a
  have hne88_q82 := kne_new hC87_q82 hq88
  have hC88_q82 := (hfr88 _ hne88_q82).trans hC87_q82
  have hne88_q85 := kne_new hC87_q85 hq88
  have hC88_q85 := (hfr88 _ hne88_q85).trans hC87_q85
  have hne88_q81 := kne_new hA87 hq88
  have hC88_q81 := (hfr88 _ hne88_q81).trans hA87
  have hz88_q81 : q88 ≠ q81 := Ne.symm hne88_q81
  have hz88_q82 : q88 ≠ q82 := Ne.symm hne88_q82
  have hz88_q85 : q88 ≠ q85 := Ne.symm hne88_q85
  have hn_q88 : h q88 = none := ((hfr87 q88 hz88_q81).trans ((hfr86 q88 hz88_q85).trans ((hfr85 q88 hz88_q85).trans ((hfr84 q88 hz88_q81).trans ((hfr83 q88 hz88_q82).trans ((hfr82 q88 hz88_q82).trans (hfr81 q88 hz88_q81))))))).symm.trans hq88
  refine k_dup (pc1 := 41) dX5_init_40 rfl rfl ?_
  refine k_iconst (pc1 := 42) dX5_init_41 rfl ?_
  refine k_iconst (pc1 := 43) dX5_init_42 rfl ?_
  refine k_iconst (pc1 := 44) dX5_init_43 rfl ?_
  refine k_callI dX5_init_44 rfl lk_RX5_9 o_X3_init (as := [.int (iI 2), .int (iI 4), .int (iI 1)]) rfl rfl (w_roomI hl hA88) (fun E h9 z => z.elim) (by decide) (by decide) (by decide) (by decide) (k8 rfl) (fun v h89 hv => ?_)
  obtain ⟨hv1, hA89, hfr89⟩ := hv
  subst hv1
  refine k_st (st' := [.ref q88, .int (iI 2), .ref q81, .ref q81, .ref a]) rfl ?_
  have hC89_a := (hfr89 _ hne88_a).trans hC88_a
  have hC89_q82 := (hfr89 _ hne88_q82).trans hC88_q82
  have hC89_q85 := (hfr89 _ hne88_q85).trans hC88_q85
  have hC89_q81 := (hfr89 _ hne88_q81).trans hC88_q81
  refine k_aast (i := 2) (pc1 := 48) dX5_init_47 rfl hC89_q81 (j := 5) rfl hA89 rfl (Or.inl rfl) (by omega) (by omega) (by decide) ?_
  obtain ⟨h90, eh90⟩ : ∃ z, z = kup h89 q81 (kro G 5 4 (va_up (va_up (va_up (fun _ => none) 0 (some q82)) 1 (some q85)) 2 (some q88))) := ⟨_, rfl⟩
  refine k_hp (h' := h90) eh90.symm ?_
  have hA90 : h90 q81 = some (kro G 5 4 (va_up (va_up (va_up (fun _ => none) 0 (some q82)) 1 (some q85)) 2 (some q88))) := by rw [eh90]; exact kup_same _ _ _
  have hfr90 : ∀ b, b ≠ q81 → h90 b = h89 b := fun b hb => by rw [eh90]; exact kup_ne hb
  clear eh90
  have hC90_a := (hfr90 _ hne81_a).trans hC89_a
  have hC90_q82 := (hfr90 _ (Ne.symm hne82_q81)).trans hC89_q82
  have hC90_q85 := (hfr90 _ (Ne.symm hne85_q81)).trans hC89_q85
  have hC90_q88 := (hfr90 _ (Ne.symm hne88_q81)).trans hA89
  refine k_dup (pc1 := 49) dX5_init_48 rfl rfl ?_
  refine k_iconst (pc1 := 50) dX5_init_49 rfl ?_
  refine k_new (pc1 := 53) dX5_init_50 rfl nw_RX5_7 (by decide) (by decide) (fun q91 hq91 => ?_)
  obtain ⟨h91, eh91⟩ : ∃ z, z = kup h90 q91 (.inr (7, [.int (iI 0), .int (iI 0), .int (iI 0)])) := ⟨_, rfl⟩
  refine k_hp (h' := h91) eh91.symm ?_
  have hA91 : h91 q91 = some (.inr (7, [.int (iI 0), .int (iI 0), .int (iI 0)])) := by rw [eh91]; exact kup_same _ _ _
  have hfr91 : ∀ b, b ≠ q91 → h91 b = h90 b := fun b hb => by rw [eh91]; exact kup_ne hb
  clear eh91
  have hne91_a := kne_new hC90_a hq91
  have hC91_a := (hfr91 _ hne91_a).trans hC90_a
  have hne91_q82 := kne_new hC90_q82 hq91
  have hC91_q82 := (hfr91 _ hne91_q82).trans hC90_q82
  have hne91_q85 := kne_new hC90_q85 hq91
  have hC91_q85 := (hfr91 _ hne91_q85).trans hC90_q85
  have hne91_q88 := kne_new hC90_q88 hq91
  have hC91_q88 := (hfr91 _ hne91_q88).trans hC90_q88
  have hne91_q81 := kne_new hA90 hq91
  have hC91_q81 := (hfr91 _ hne91_q81).trans hA90
  have hz91_q81 : q91 ≠ q81 := Ne.symm hne91_q81
  have hz91_q82 : q91 ≠ q82 := Ne.symm hne91_q82
  have hz91_q85 : q91 ≠ q85 := Ne.symm hne91_q85
  have hz91_q88 : q91 ≠ q88 := Ne.symm hne91_q88
  have hn_q91 : h q91 = none := ((hfr90 q91 hz91_q81).trans ((hfr89 q91 hz91_q88).trans ((hfr88 q91 hz91_q88).trans ((hfr87 q91 hz91_q81).trans ((hfr86 q91 hz91_q85).trans ((hfr85 q91 hz91_q85).trans ((hfr84 q91 hz91_q81).trans ((hfr83 q91 hz91_q82).trans ((hfr82 q91 hz91_q82).trans (hfr81 q91 hz91_q81)))))))))).symm.trans hq91
  refine k_dup (pc1 := 54) dX5_init_53 rfl rfl ?_
  refine k_iconst (pc1 := 55) dX5_init_54 rfl ?_
  refine k_bipush 6 (pc1 := 57) dX5_init_55 rfl (by decide) ?_
  refine k_iconst (pc1 := 58) dX5_init_57 rfl ?_
  refine k_callI dX5_init_58 rfl lk_RX5_9 o_X3_init (as := [.int (iI 3), .int (iI 6), .int (iI 1)]) rfl rfl (w_roomI hl hA91) (fun E h9 z => z.elim) (by decide) (by decide) (by decide) (by decide) (k8 rfl) (fun v h92 hv => ?_)
  obtain ⟨hv1, hA92, hfr92⟩ := hv
  subst hv1
  refine k_st (st' := [.ref q91, .int (iI 3), .ref q81, .ref q81, .ref a]) rfl ?_
  have hC92_a := (hfr92 _ hne91_a).trans hC91_a
  have hC92_q82 := (hfr92 _ hne91_q82).trans hC91_q82
  have hC92_q85 := (hfr92 _ hne91_q85).trans hC91_q85
  have hC92_q88 := (hfr92 _ hne91_q88).trans hC91_q88
  have hC92_q81 := (hfr92 _ hne91_q81).trans hC91_q81
  refine k_aast (i := 3) (pc1 := 62) dX5_init_61 rfl hC92_q81 (j := 5) rfl hA92 rfl (Or.inl rfl) (by omega) (by omega) (by decide) ?_
  obtain ⟨h93, eh93⟩ : ∃ z, z = kup h92 q81 (kro G 5 4 (va_up (va_up (va_up (va_up (fun _ => none) 0 (some q82)) 1 (some q85)) 2 (some q88)) 3 (some q91))) := ⟨_, rfl⟩
  refine k_hp (h' := h93) eh93.symm ?_
  have hA93 : h93 q81 = some (kro G 5 4 (va_up (va_up (va_up (va_up (fun _ => none) 0 (some q82)) 1 (some q85)) 2 (some q88)) 3 (some q91))) := by rw [eh93]; exact kup_same _ _ _
  have hfr93 : ∀ b, b ≠ q81 → h93 b = h92 b := fun b hb => by rw [eh93]; exact kup_ne hb
  clear eh93
  have hC93_a := (hfr93 _ hne81_a).trans hC92_a
  have hC93_q82 := (hfr93 _ (Ne.symm hne82_q81)).trans hC92_q82
  have hC93_q85 := (hfr93 _ (Ne.symm hne85_q81)).trans hC92_q85
  have hC93_q88 := (hfr93 _ (Ne.symm hne88_q81)).trans hC92_q88
  have hC93_q91 := (hfr93 _ (Ne.symm hne91_q81)).trans hA92
  refine k_put (pc1 := 65) dX5_init_62 rfl fp_RX5_12 (Or.inr rfl) hC93_a (Nat.le_of_ble_eq_true rfl) rfl rfl ?_
  obtain ⟨h94, eh94⟩ : ∃ z, z = kup h93 a (.inr (9, [.ref q81, .null, .null, .int (iI 0), .int (iI 0), .int (iI 0), .int (iI 0)])) := ⟨_, rfl⟩
  refine k_hp (h' := h94) eh94.symm ?_
  have hA94 : h94 a = some (.inr (9, [.ref q81, .null, .null, .int (iI 0), .int (iI 0), .int (iI 0), .int (iI 0)])) := by rw [eh94]; exact kup_same _ _ _
  have hfr94 : ∀ b, b ≠ a → h94 b = h93 b := fun b hb => by rw [eh94]; exact kup_ne hb
  clear eh94
  have hC94_q82 := (hfr94 _ (Ne.symm hne82_a)).trans hC93_q82
  have hC94_q85 := (hfr94 _ (Ne.symm hne85_a)).trans hC93_q85
  have hC94_q88 := (hfr94 _ (Ne.symm hne88_a)).trans hC93_q88
  have hC94_q91 := (hfr94 _ (Ne.symm hne91_a)).trans hC93_q91
  have hC94_q81 := (hfr94 _ (Ne.symm hne81_a)).trans hA93
  refine k_aload_n (pc1 := 66) dX5_init_65 rfl rfl ?_
  refine k_bipush 28 (pc1 := 68) dX5_init_66 rfl (by decide) ?_
  refine k_newR 4 (pc1 := 71) (z := 28) (N := 28) dX5_init_68 rfl cl_RX5_18 rfl (by decide) rfl (by decide) (by omega) (by omega) (fun q95 hq95 => ?_)
  obtain ⟨h95, eh95⟩ : ∃ z, z = kup h94 q95 (kro G 4 28 (fun _ => none)) := ⟨_, rfl⟩
  refine k_hp (h' := h95) eh95.symm ?_
  have hA95 : h95 q95 = some (kro G 4 28 (fun _ => none)) := by rw [eh95]; exact kup_same _ _ _
  have hfr95 : ∀ b, b ≠ q95 → h95 b = h94 b := fun b hb => by rw [eh95]; exact kup_ne hb
  clear eh95
  have hne95_a := kne_new hA94 hq95
  have hC95_a := (hfr95 _ hne95_a).trans hA94
  have hne95_q82 := kne_new hC94_q82 hq95
  have hC95_q82 := (hfr95 _ hne95_q82).trans hC94_q82
  have hne95_q85 := kne_new hC94_q85 hq95
  have hC95_q85 := (hfr95 _ hne95_q85).trans hC94_q85
  have hne95_q88 := kne_new hC94_q88 hq95
  have hC95_q88 := (hfr95 _ hne95_q88).trans hC94_q88
  have hne95_q91 := kne_new hC94_q91 hq95
  have hC95_q91 := (hfr95 _ hne95_q91).trans hC94_q91
  have hne95_q81 := kne_new hC94_q81 hq95
  have hC95_q81 := (hfr95 _ hne95_q81).trans hC94_q81
  have hz95_q81 : q95 ≠ q81 := Ne.symm hne95_q81
  have hz95_q82 : q95 ≠ q82 := Ne.symm hne95_q82
  have hz95_q85 : q95 ≠ q85 := Ne.symm hne95_q85
  have hz95_q88 : q95 ≠ q88 := Ne.symm hne95_q88
  have hz95_q91 : q95 ≠ q91 := Ne.symm hne95_q91
  have hz95_a : q95 ≠ a := Ne.symm hne95_a
  have hn_q95 : h q95 = none := ((hfr94 q95 hz95_a).trans ((hfr93 q95 hz95_q81).trans ((hfr92 q95 hz95_q91).trans ((hfr91 q95 hz95_q91).trans ((hfr90 q95 hz95_q81).trans ((hfr89 q95 hz95_q88).trans ((hfr88 q95 hz95_q88).trans ((hfr87 q95 hz95_q81).trans ((hfr86 q95 hz95_q85).trans ((hfr85 q95 hz95_q85).trans ((hfr84 q95 hz95_q81).trans ((hfr83 q95 hz95_q82).trans ((hfr82 q95 hz95_q82).trans (hfr81 q95 hz95_q81)))))))))))))).symm.trans hq95
  refine k_put (pc1 := 74) dX5_init_71 rfl fp_RX5_20 (Or.inr rfl) hC95_a (Nat.le_of_ble_eq_true rfl) rfl rfl ?_
  obtain ⟨h96, eh96⟩ : ∃ z, z = kup h95 a (.inr (9, [.ref q81, .ref q95, .null, .int (iI 0), .int (iI 0), .int (iI 0), .int (iI 0)])) := ⟨_, rfl⟩
  refine k_hp (h' := h96) eh96.symm ?_
  have hA96 : h96 a = some (.inr (9, [.ref q81, .ref q95, .null, .int (iI 0), .int (iI 0), .int (iI 0), .int (iI 0)])) := by rw [eh96]; exact kup_same _ _ _
  have hfr96 : ∀ b, b ≠ a → h96 b = h95 b := fun b hb => by rw [eh96]; exact kup_ne hb
  clear eh96
  have hC96_q82 := (hfr96 _ (Ne.symm hne82_a)).trans hC95_q82
  have hC96_q85 := (hfr96 _ (Ne.symm hne85_a)).trans hC95_q85
  have hC96_q88 := (hfr96 _ (Ne.symm hne88_a)).trans hC95_q88
  have hC96_q91 := (hfr96 _ (Ne.symm hne91_a)).trans hC95_q91
  have hC96_q81 := (hfr96 _ (Ne.symm hne81_a)).trans hC95_q81
  have hC96_q95 := (hfr96 _ (Ne.symm hne95_a)).trans hA95
  refine k_iconst (pc1 := 75) dX5_init_74 rfl ?_
  refine k_istore_n (pc1 := 76) dX5_init_75 rfl (by decide) (k_loc (L' := [some (.ref a), some (.int (iI 0))]) rfl ?_)
  have hAd : a ≠ q95 := kne_or hA96 hC96_q95
  have hAq := hA96
  have hQE0 := hC96_q95
  have hrd : q81 ≠ q95 := hne95_q81
  have hfE : ∀ (b : Nat) (e : va_E), h b = some e → b ≠ a → h96 b = some e := fun b e hb hba => by
    have hb_q81 : b ≠ q81 := kne_new hb hn_q81
    have hb_q95 : b ≠ q95 := kne_new hb hn_q95
    have hb_q82 : b ≠ q82 := kne_new hb hn_q82
    have hb_q85 : b ≠ q85 := kne_new hb hn_q85
    have hb_q88 : b ≠ q88 := kne_new hb hn_q88
    have hb_q91 : b ≠ q91 := kne_new hb hn_q91
    exact ((hfr96 b hba).trans ((hfr95 b hb_q95).trans ((hfr94 b hba).trans ((hfr93 b hb_q81).trans ((hfr92 b hb_q91).trans ((hfr91 b hb_q91).trans ((hfr90 b hb_q81).trans ((hfr89 b hb_q88).trans ((hfr88 b hb_q88).trans ((hfr87 b hb_q81).trans ((hfr86 b hb_q85).trans ((hfr85 b hb_q85).trans ((hfr84 b hb_q81).trans ((hfr83 b hb_q82).trans ((hfr82 b hb_q82).trans (hfr81 b hb_q81)))))))))))))))).trans hb
  have hloop76 : ∀ (zz : Nat) (i : Nat) (h5 : kAH) (F : Nat → Option Nat) (dy dl : Nat → Nat), zz = 28 - i → (i ≤ 28) → (h5 q95 = some (kro G 4 28 F)) → (∀ (b : Nat) (e : va_E), h96 b = some e → b ≠ q95 → h5 b = some e) → (kDy G h96 h5 i F dy dl) → kW l G m_X5_init 5 (fun v h' => v = none ∧ ∃ (γ : kGh) (A : kAb), kRp G h' a γ A f00 ∧ ∀ (b : Nat) (e : va_E), h b = some e → b ≠ a → h' b = some e ∧ gOw γ b = (0, 0)) kNo (2 * (28 - i) + 3) (4 * (28 - i) + 10) 76 [some (.ref a), some (.int (iI ((i : Nat) : Int)))] [] h5 := by
    intro zz
    induction zz using Nat.strongRecOn with
    | ind zz ih76 =>
    intro i h5 F dy dl hr76 hi9 hQ5 hK5 hD5
    have hA5 := hK5 _ _ hAq hAd
    refine k_iload_n (pc1 := 77) dX5_init_76 rfl rfl ?_
    refine k_aload_n (pc1 := 78) dX5_init_77 rfl rfl ?_
    refine k_get (pc1 := 81) dX5_init_78 rfl fd_RX5_20 hA5 (v := .ref q95) rfl ?_
    refine k_alenR (pc1 := 82) dX5_init_81 rfl hQ5 (j := 4) rfl ?_
    refine k_icmp_ge (a := ((i : Nat) : Int)) (b := ((28 : Nat) : Int)) dX5_init_82 rfl (tgt := 104) rfl (by omega) (by omega) (fun c82 : ((28 : Nat) : Int) ≤ ((i : Nat) : Int) => ?_) (fun c82 : ((i : Nat) : Int) < ((28 : Nat) : Int) => ?_)
    · skip
      refine k_aload_n (pc1 := 105) dX5_init_104 rfl rfl ?_
      refine k_new (pc1 := 108) dX5_init_105 rfl nw_RX5_25 (by omega) (by omega) (fun ml hml => ?_)
      refine k_dup (pc1 := 109) dX5_init_108 rfl rfl ?_
      refine k_callI dX5_init_109 rfl lk_RX5_27 o_Jx4a65c_init_da8c8 (as := []) rfl rfl (w_lnew hl (kup_same _ _ _)) (fun E h9 z => z.elim) (by decide) (by decide) (Nat.zero_le _) (Nat.zero_le _) (k8 rfl) (fun v h8 hv => ?_)
      obtain ⟨hv1, hL8, hv3⟩ := hv
      subst hv1
      refine k_st (st' := [.ref ml, .ref a]) rfl ?_
      have hf8 : ∀ b, b ≠ ml → h8 b = h5 b := fun b hb => (hv3 b hb).trans (kup_ne hb)
      have hX8 : kXt h5 h8 := fun b e z => (hf8 b (kne_new z hml)).trans z
      clear hv3
      have hA8 := hX8 _ _ hA5
      refine k_put (pc1 := 115) dX5_init_112 rfl fp_RX5_28 (Or.inr rfl) hA8 (Nat.le_of_ble_eq_true rfl) rfl rfl ?_
      obtain ⟨h97, eh97⟩ : ∃ z, z = kup h8 a (.inr (9, [.ref q81, .ref q95, .ref ml, .int (iI 0), .int (iI 0), .int (iI 0), .int (iI 0)])) := ⟨_, rfl⟩
      refine k_hp (h' := h97) eh97.symm ?_
      have hA97 : h97 a = some (.inr (9, [.ref q81, .ref q95, .ref ml, .int (iI 0), .int (iI 0), .int (iI 0), .int (iI 0)])) := by rw [eh97]; exact kup_same _ _ _
      have hfr97 : ∀ b, b ≠ a → h97 b = h8 b := fun b hb => by rw [eh97]; exact kup_ne hb
      clear eh97
      refine k_aload_n (pc1 := 116) dX5_init_115 rfl rfl ?_
      refine k_iconst (pc1 := 117) dX5_init_116 rfl ?_
      refine k_put (pc1 := 120) dX5_init_117 rfl fp_RX5_32 (Or.inl rfl) hA97 (Nat.le_of_ble_eq_true rfl) rfl rfl ?_
      obtain ⟨h98, eh98⟩ : ∃ z, z = kup h97 a (.inr (9, [.ref q81, .ref q95, .ref ml, .int (iI 1), .int (iI 0), .int (iI 0), .int (iI 0)])) := ⟨_, rfl⟩
      refine k_hp (h' := h98) eh98.symm ?_
      have hA98 : h98 a = some (.inr (9, [.ref q81, .ref q95, .ref ml, .int (iI 1), .int (iI 0), .int (iI 0), .int (iI 0)])) := by rw [eh98]; exact kup_same _ _ _
      have hfr98 : ∀ b, b ≠ a → h98 b = h97 b := fun b hb => by rw [eh98]; exact kup_ne hb
      clear eh98
      refine k_aload_n (pc1 := 121) dX5_init_120 rfl rfl ?_
      refine k_iconst (pc1 := 122) dX5_init_121 rfl ?_
      refine k_put (pc1 := 125) dX5_init_122 rfl fp_RX5_36 (Or.inl rfl) hA98 (Nat.le_of_ble_eq_true rfl) rfl rfl ?_
      obtain ⟨h99, eh99⟩ : ∃ z, z = kup h98 a (.inr (9, [.ref q81, .ref q95, .ref ml, .int (iI 1), .int (iI 0), .int (iI 0), .int (iI 0)])) := ⟨_, rfl⟩
      refine k_hp (h' := h99) eh99.symm ?_
      have hA99 : h99 a = some (.inr (9, [.ref q81, .ref q95, .ref ml, .int (iI 1), .int (iI 0), .int (iI 0), .int (iI 0)])) := by rw [eh99]; exact kup_same _ _ _
      have hfr99 : ∀ b, b ≠ a → h99 b = h98 b := fun b hb => by rw [eh99]; exact kup_ne hb
      clear eh99
      refine k_aload_n (pc1 := 126) dX5_init_125 rfl rfl ?_
      refine k_iconst (pc1 := 127) dX5_init_126 rfl ?_
      refine k_put (pc1 := 130) dX5_init_127 rfl fp_RX5_39 (Or.inl rfl) hA99 (Nat.le_of_ble_eq_true rfl) rfl rfl ?_
      obtain ⟨h100, eh100⟩ : ∃ z, z = kup h99 a (.inr (9, [.ref q81, .ref q95, .ref ml, .int (iI 1), .int (iI 0), .int (iI 0), .int (iI 0)])) := ⟨_, rfl⟩
      refine k_hp (h' := h100) eh100.symm ?_
      have hA100 : h100 a = some (.inr (9, [.ref q81, .ref q95, .ref ml, .int (iI 1), .int (iI 0), .int (iI 0), .int (iI 0)])) := by rw [eh100]; exact kup_same _ _ _
      have hfr100 : ∀ b, b ≠ a → h100 b = h99 b := fun b hb => by rw [eh100]; exact kup_ne hb
      clear eh100
      refine k_aload_n (pc1 := 131) dX5_init_130 rfl rfl ?_
      refine k_iconst (pc1 := 132) dX5_init_131 rfl ?_
      refine k_put (pc1 := 135) dX5_init_132 rfl fp_RX5_42 (Or.inl rfl) hA100 (Nat.le_of_ble_eq_true rfl) rfl rfl ?_
      obtain ⟨h101, eh101⟩ : ∃ z, z = kup h100 a (.inr (9, [.ref q81, .ref q95, .ref ml, .int (iI 1), .int (iI 0), .int (iI 0), .int (iI 0)])) := ⟨_, rfl⟩
      refine k_hp (h' := h101) eh101.symm ?_
      have hA101 : h101 a = some (.inr (9, [.ref q81, .ref q95, .ref ml, .int (iI 1), .int (iI 0), .int (iI 0), .int (iI 0)])) := by rw [eh101]; exact kup_same _ _ _
      have hfr101 : ∀ b, b ≠ a → h101 b = h100 b := fun b hb => by rw [eh101]; exact kup_ne hb
      clear eh101
      have ei : i = 28 := by omega
      subst ei
      have hT : ∀ b, b ≠ a → h101 b = h8 b := fun b hb => (hfr101 b hb).trans ((hfr100 b hb).trans ((hfr99 b hb).trans ((hfr98 b hb).trans (hfr97 b hb))))
      have hKT : ∀ (b : Nat) (e : va_E), h96 b = some e → b ≠ a → b ≠ q95 → h101 b = some e := fun b e hb b1 b2 => (hT b b1).trans (hX8 b e (hK5 b e hb b2))
      have hna : ∀ {b : Nat} {e : va_E}, h5 b = some e → b ≠ a → h101 b = some e := fun {b e} hb b1 => (hT b b1).trans (hX8 b e hb)
      obtain ⟨rm, erm⟩ : ∃ z : Nat → Nat, z = fun r => if r = 0 then q82 else if r = 1 then q85 else if r = 2 then q88 else q91 := ⟨_, rfl⟩
      have er0 : rm 0 = q82 := by rw [erm]; rfl
      have er1 : rm 1 = q85 := by rw [erm]; rfl
      have er2 : rm 2 = q88 := by rw [erm]; rfl
      have er3 : rm 3 = q91 := by rw [erm]; rfl
      have hra9 := hKT _ _ hC96_q81 (kne_ro hC96_q81 hAq) hrd
      have hr9_0 := hKT _ _ hC96_q82 (kne_ci hC96_q82 hAq (by decide)) (kne_or hC96_q82 hQE0)
      have hr9_1 := hKT _ _ hC96_q85 (kne_ci hC96_q85 hAq (by decide)) (kne_or hC96_q85 hQE0)
      have hr9_2 := hKT _ _ hC96_q88 (kne_ci hC96_q88 hAq (by decide)) (kne_or hC96_q88 hQE0)
      have hr9_3 := hKT _ _ hC96_q91 (kne_ci hC96_q91 hAq (by decide)) (kne_or hC96_q91 hQE0)
      have hml5 : h5 ml = none := hml
      have hmle : h96 ml = none := by
        cases c : h96 ml with
        | none => rfl
        | some e =>
          by_cases cx : ml = q95
          · rw [cx, hQ5] at hml5; cases hml5
          · rw [hK5 ml e c cx] at hml5; cases hml5
      have hnE : ∀ b : Nat, h96 b = none → h b = none := fun b hb => by
        cases c : h b with
        | none => rfl
        | some e =>
          by_cases cx : b = a
          · rw [cx, hAq] at hb; cases hb
          · rw [hfE b e c cx] at hb; cases hb
      have hm8 : ml ≠ a := fun y => by rw [y, hA5] at hml5; cases hml5
      obtain ⟨D1, D2, D3⟩ := hD5
      have hlk : ∀ j : Nat, j < 28 → kLs G h101 (dl j) G.2.2.2 0 [] := fun j hj => by
        obtain ⟨⟨mc, y1⟩, -⟩ := (D1 j hj).2.2.2.2
        exact ⟨⟨mc, hna y1 (kne_ci y1 hA5 (by decide))⟩, Or.inl ⟨rfl, rfl, rfl⟩⟩
      have hini : ∃ (γ : kGh) (A : kAb), kRp G h101 a γ A f00 ∧ ∀ (b : Nat) (e : va_E), h b = some e → b ≠ a → h101 b = some e ∧ gOw γ b = (0, 0) := by
        refine ra_ini (ml := ml) (rm := rm) (dy := dy) (dl := dl) hA101 hra9 (fun r hr => ?_) (fun r hr => ?_) (fun j k hj hk e => ?_) (hna hQ5 (kne_ro hQ5 hA5)) hrd (fun j hj => ⟨(D1 j hj).1, hna (D1 j hj).2.2.2.1 (kne_ci (D1 j hj).2.2.2.1 hA5 (by decide)), hlk j hj⟩) D2 D3 (?_ : kLs G h101 ml G.2.2.2 0 []) (fun j hj y => ?_) ⟨hn_q81, hn_q95, hnE ml hmle, fun r hr => ?_, fun j hj => ⟨hnE _ (D1 j hj).2.1, hnE _ (D1 j hj).2.2.1⟩⟩ (fun b e hb hba => ?_)
        · have hr4 : r = 0 ∨ r = 1 ∨ r = 2 ∨ r = 3 := by omega
          rcases hr4 with rfl | rfl | rfl | rfl
          · rw [er0]; rfl
          · rw [er1]; rfl
          · rw [er2]; rfl
          · rw [er3]; rfl
        · have hr4 : r = 0 ∨ r = 1 ∨ r = 2 ∨ r = 3 := by omega
          rcases hr4 with rfl | rfl | rfl | rfl
          · rw [er0]; exact hr9_0
          · rw [er1]; exact hr9_1
          · rw [er2]; exact hr9_2
          · rw [er3]; exact hr9_3
        · have hj4 : j = 0 ∨ j = 1 ∨ j = 2 ∨ j = 3 := by omega
          have hk4 : k = 0 ∨ k = 1 ∨ k = 2 ∨ k = 3 := by omega
          rcases hj4 with rfl | rfl | rfl | rfl <;> rcases hk4 with rfl | rfl | rfl | rfl <;> first | rfl | (exfalso; first | (rw [er0, er1] at e; exact hne85_q82 e) | (rw [er0, er2] at e; exact hne88_q82 e) | (rw [er0, er3] at e; exact hne91_q82 e) | (rw [er1, er0] at e; exact (Ne.symm hne85_q82) e) | (rw [er1, er2] at e; exact hne88_q85 e) | (rw [er1, er3] at e; exact hne91_q85 e) | (rw [er2, er0] at e; exact (Ne.symm hne88_q82) e) | (rw [er2, er1] at e; exact (Ne.symm hne88_q85) e) | (rw [er2, er3] at e; exact hne91_q88 e) | (rw [er3, er0] at e; exact (Ne.symm hne91_q82) e) | (rw [er3, er1] at e; exact (Ne.symm hne91_q85) e) | (rw [er3, er2] at e; exact (Ne.symm hne91_q88) e))
        · obtain ⟨⟨mc, y1⟩, -⟩ := hL8
          exact ⟨⟨mc, (hT ml hm8).trans y1⟩, Or.inl ⟨rfl, rfl, rfl⟩⟩
        · obtain ⟨⟨mc, y1⟩, -⟩ := (D1 j hj).2.2.2.2
          rw [← y, hml5] at y1; cases y1
        · have hr4 : r = 0 ∨ r = 1 ∨ r = 2 ∨ r = 3 := by omega
          rcases hr4 with rfl | rfl | rfl | rfl
          · rw [er0]; exact hn_q82
          · rw [er1]; exact hn_q85
          · rw [er2]; exact hn_q88
          · rw [er3]; exact hn_q91
        · exact hKT b e (hfE b e hb hba) hba (kne_new hb hn_q95)
      exact k_vret dX5_init_135 rfl ⟨rfl, hini⟩
    · skip
      refine k_aload_n (pc1 := 86) dX5_init_85 rfl rfl ?_
      refine k_get (pc1 := 89) dX5_init_86 rfl fd_RX5_20 hA5 (v := .ref q95) rfl ?_
      refine k_iload_n (pc1 := 90) dX5_init_89 rfl rfl ?_
      refine k_new (pc1 := 93) dX5_init_90 rfl nw_RX5_18 (by omega) (by omega) (fun q hq => ?_)
      refine k_dup (pc1 := 94) dX5_init_93 rfl rfl ?_
      refine k_callI dX5_init_94 rfl lk_RX5_24 o_X1_init (as := []) rfl rfl (w_dayI hl (kup_same _ _ _)) (fun E h9 z => z.elim) (by decide) (by decide) (by omega) (by omega) (k8 rfl) (fun v h6 hv => ?_)
      obtain ⟨hv1, dq, hdq, hv2, hv3, hv4⟩ := hv
      subst hv1
      refine k_st (st' := [.ref q, .int (iI ((i : Nat) : Int)), .ref q95]) rfl ?_
      have hqd : q ≠ dq := fun y => by rw [← y, kup_same] at hdq; cases hdq
      rw [kup_ne (Ne.symm hqd)] at hdq
      have n1 : q95 ≠ q := kne_new hQ5 hq
      have n2 : q95 ≠ dq := kne_new hQ5 hdq
      have hQ6 := (hv4 _ n1 n2).trans ((kup_ne n1).trans hQ5)
      replace hv4 : ∀ b, b ≠ q → b ≠ dq → h6 b = h5 b := fun b b1 b2 => (hv4 b b1 b2).trans (kup_ne b1)
      refine k_aast (i := ((i : Nat) : Int)) (pc1 := 98) dX5_init_97 rfl hQ6 (j := 4) rfl hv2 rfl (Or.inl rfl) (by omega) (by omega) (by decide) ?_
      obtain ⟨h7, eh7⟩ : ∃ z, z = kup h6 q95 (kro G 4 28 (va_up F i (some q))) := ⟨_, rfl⟩
      refine k_hp (h' := h7) eh7.symm ?_
      have hQ7 : h7 q95 = some (kro G 4 28 (va_up F i (some q))) := by rw [eh7]; exact kup_same _ _ _
      have hf7 : ∀ b, b ≠ q95 → h7 b = h6 b := fun b hb => by rw [eh7]; exact kup_ne hb
      obtain ⟨hK7, hD7⟩ := dyI_step ⟨_, hQ5, fun ci vs y => (by cases y)⟩ hK5 (by rw [hQE0]; exact fun y => by cases y) hD5 hq hdq hqd hv2 hv3 hv4 hf7
      refine k_iinc (a := ((i : Nat) : Int)) (pc1 := 101) dX5_init_98 rfl rfl (by decide) (k_loc (L' := [some (.ref a), some (.int (iI (((i : Nat) : Int) + 1)))]) rfl ?_)
      refine k_goto dX5_init_101 (tgt := 76) rfl ?_
      exact k_widen (by omega) (by omega) (ih76 _ (by omega) (i + 1) h7 (va_up F i (some q)) _ _ rfl (by omega) hQ7 hK7 hD7)
  exact k_widen (by omega) (by omega) (hloop76 _ 0 h96 _ (fun _ => 0) (fun _ => 0) rfl (by omega) hQE0 (fun b e hb _ => hb) dyI_0)
