/-! ===== the class: note, walked ===== -/
theorem w_note {l : Launch} {G : kG} {h : kAH} (hl : l.stackTraces = false) {pl : Nat} {γ : kGh} {A : kAb} {f : Nat → Int} (hC : kRp G h pl γ A f) {m : Int} (hm0 : 0 ≤ m) (hm1 : m < f 1) {p : Nat} (hp : p < 6) {a : Int} (hold : oF f m (4 + (p : Int)) ≠ 45) (hr9 : 0 ≤ a ∧ a < 65536) (ha : a ≠ 45) (hW9 : kWf (lyF f m (4 + (p : Int)) a)) : kC l G m_X2_note 2 0 0 [.ref (gMt γ (oF f m 0)), .int (iI ((p : Nat) : Int)), .int (iI a)] h (fun v h' => v = none ∧ (∃ A' : kAb, kRp G h' pl γ A' (lyF f m (4 + ((p : Nat) : Int)) a)) ∧ ∀ b : Nat, b ≠ gMt γ (oF f m 0) → h' b = h b) kNo := by
  refine kC_of hl rfl rfl (Nat.le_of_ble_eq_true rfl) (L := [some (.ref (gMt γ (oF f m 0))), some (.int (iI ((p : Nat) : Int))), some (.int (iI a)), none]) rfl ?_
  have hmm := kWf_m hC.2.2 (m := m) hm0 hm1
  have hmx := rp_Mx hC (m := m) hm0 hm1
  obtain ⟨arE, cE, hMd⟩ := rp_Md hC (m := m) hm0 hm1
  obtain ⟨mcE, hMe⟩ := hMd.1
  have hqp : 2 ^ p < 64 := k2p_lt hp
  have hx1 := hmx.1
  have hx2 := hmx.2.1
  have hx3 := hmx.2.2.1
  refine k_iload_n (pc1 := 1) dX2_note_0 rfl rfl ?_
  refine k_callSNP dX2_note_1 rfl ln_RX2_28 o_X5_bitOf (w_X5_bitOf hl ((p : Nat) : Int) ⟨by omega, by omega⟩) (as := [.int (iI ((p : Nat) : Int))]) rfl rfl rfl (by decide) (by decide) (k8 rfl) ?_
  refine k_istore_n (pc1 := 5) dX2_note_4 rfl (by decide) (k_loc (L' := [some (.ref (gMt γ (oF f m 0))), some (.int (iI ((p : Nat) : Int))), some (.int (iI a)), some (.int (iI (((2 ^ p) : Nat) : Int)))]) rfl ?_)
  refine k_aload_n (pc1 := 6) dX2_note_5 rfl rfl ?_
  refine k_iload_n (pc1 := 7) dX2_note_6 rfl rfl ?_
  refine k_bipush 121 (pc1 := 9) dX2_note_7 rfl (by decide) ?_
  refine k_icmp_ne (a := a) (b := 121) dX2_note_9 rfl (tgt := 21) rfl (by omega) (by decide) (fun c9 : a ≠ 121 => ?_) (fun c9 : a = 121 => ?_)
  · skip
    refine k_aload_n (pc1 := 22) dX2_note_21 rfl rfl ?_
    refine k_get (pc1 := 25) dX2_note_22 rfl fd_RX2_48 (rp_M hC (m := m) hm0 hm1) (v := .int (iI (((aYs A (oF f m 0)) : Nat) : Int))) rfl ?_
    refine k_iload_n (pc1 := 26) dX2_note_25 rfl rfl ?_
    refine k_iconst (pc1 := 27) dX2_note_26 rfl ?_
    refine k_ixor (pc1 := 28) dX2_note_27 rfl ?_
    refine k_iand (pc1 := 29) dX2_note_28 rfl (k_val (v' := .int (iI (((kdf (aYs A (oF f m 0)) (2 ^ p)) : Nat) : Int))) (congrArg Value.int (iI_andn (by first | omega | exact kmk_lt _ 6 | exact exM_lt ⟨by omega, by omega⟩ (by first | omega | exact kmk_lt _ 6) | assumption) (by first | omega | exact kmk_lt _ 6 | exact exM_lt ⟨by omega, by omega⟩ (by first | omega | exact kmk_lt _ 6) | assumption))) ?_)
    refine k_val (v' := .int (iI (((ntS (a = 121) (aYs A (oF f m 0)) p) : Nat) : Int))) (congrArg (fun z : Nat => Value.int (iI (z : Int))) (kI_f (by omega)).symm) ?_
    refine k_put (pc1 := 32) dX2_note_29 rfl fp_RX2_48 (Or.inl rfl) (rp_M hC (m := m) hm0 hm1) (Nat.le_of_ble_eq_true rfl) rfl rfl ?_
    obtain ⟨h46, eh46⟩ : ∃ z, z = kup h (gMt γ (oF f m 0)) (.inr (6, [.int (iI (oF f m 0)), .int (iI (oF f m 1)), .int (iI (((aAk A (oF f m 0)) : Nat) : Int)), .ref (gMd γ (oF f m 0)), .int (iI (((ntS (a = 121) (aYs A (oF f m 0)) p) : Nat) : Int)), .int (iI (((aNo A (oF f m 0)) : Nat) : Int))])) := ⟨_, rfl⟩
    refine k_hp (h' := h46) eh46.symm ?_
    have hT46 : h46 (gMt γ (oF f m 0)) = some (.inr (6, [.int (iI (oF f m 0)), .int (iI (oF f m 1)), .int (iI (((aAk A (oF f m 0)) : Nat) : Int)), .ref (gMd γ (oF f m 0)), .int (iI (((ntS (a = 121) (aYs A (oF f m 0)) p) : Nat) : Int)), .int (iI (((aNo A (oF f m 0)) : Nat) : Int))])) := by rw [eh46]; exact kup_same _ _ _
    have hG46 : ∀ b, b ≠ (gMt γ (oF f m 0)) → h46 b = h b := fun b hb => by rw [eh46]; exact kup_ne hb
    clear eh46
    refine k_aload_n (pc1 := 33) dX2_note_32 rfl rfl ?_
    refine k_iload_n (pc1 := 34) dX2_note_33 rfl rfl ?_
    refine k_bipush 110 (pc1 := 36) dX2_note_34 rfl (by decide) ?_
    refine k_icmp_ne (a := a) (b := 110) dX2_note_36 rfl (tgt := 48) rfl (by omega) (by decide) (fun c36 : a ≠ 110 => ?_) (fun c36 : a = 110 => ?_)
    · skip
      refine k_aload_n (pc1 := 49) dX2_note_48 rfl rfl ?_
      refine k_get (pc1 := 52) dX2_note_49 rfl fd_RX2_32 hT46 (v := .int (iI (((aNo A (oF f m 0)) : Nat) : Int))) rfl ?_
      refine k_iload_n (pc1 := 53) dX2_note_52 rfl rfl ?_
      refine k_iconst (pc1 := 54) dX2_note_53 rfl ?_
      refine k_ixor (pc1 := 55) dX2_note_54 rfl ?_
      refine k_iand (pc1 := 56) dX2_note_55 rfl (k_val (v' := .int (iI (((kdf (aNo A (oF f m 0)) (2 ^ p)) : Nat) : Int))) (congrArg Value.int (iI_andn (by first | omega | exact kmk_lt _ 6 | exact exM_lt ⟨by omega, by omega⟩ (by first | omega | exact kmk_lt _ 6) | assumption) (by first | omega | exact kmk_lt _ 6 | exact exM_lt ⟨by omega, by omega⟩ (by first | omega | exact kmk_lt _ 6) | assumption))) ?_)
      refine k_val (v' := .int (iI (((ntS (a = 110) (aNo A (oF f m 0)) p) : Nat) : Int))) (congrArg (fun z : Nat => Value.int (iI (z : Int))) (kI_f (by omega)).symm) ?_
      refine k_put (pc1 := 59) dX2_note_56 rfl fp_RX2_32 (Or.inl rfl) hT46 (Nat.le_of_ble_eq_true rfl) rfl rfl ?_
      obtain ⟨h47, eh47⟩ : ∃ z, z = kup h46 (gMt γ (oF f m 0)) (.inr (6, [.int (iI (oF f m 0)), .int (iI (oF f m 1)), .int (iI (((aAk A (oF f m 0)) : Nat) : Int)), .ref (gMd γ (oF f m 0)), .int (iI (((ntS (a = 121) (aYs A (oF f m 0)) p) : Nat) : Int)), .int (iI (((ntS (a = 110) (aNo A (oF f m 0)) p) : Nat) : Int))])) := ⟨_, rfl⟩
      refine k_hp (h' := h47) eh47.symm ?_
      have hT47 : h47 (gMt γ (oF f m 0)) = some (.inr (6, [.int (iI (oF f m 0)), .int (iI (oF f m 1)), .int (iI (((aAk A (oF f m 0)) : Nat) : Int)), .ref (gMd γ (oF f m 0)), .int (iI (((ntS (a = 121) (aYs A (oF f m 0)) p) : Nat) : Int)), .int (iI (((ntS (a = 110) (aNo A (oF f m 0)) p) : Nat) : Int))])) := by rw [eh47]; exact kup_same _ _ _
      have hG47 : ∀ b, b ≠ (gMt γ (oF f m 0)) → h47 b = h b := fun b hb => by rw [eh47]; exact (kup_ne hb).trans (hG46 b hb)
      clear eh47
      exact k_vret dX2_note_59 rfl ⟨rfl, rp_note hC hm0 hm1 hp hold ha hW9 hG47 hT47, hG47⟩
    · skip
      refine k_aload_n (pc1 := 40) dX2_note_39 rfl rfl ?_
      refine k_get (pc1 := 43) dX2_note_40 rfl fd_RX2_32 hT46 (v := .int (iI (((aNo A (oF f m 0)) : Nat) : Int))) rfl ?_
      refine k_iload_n (pc1 := 44) dX2_note_43 rfl rfl ?_
      refine k_ior (pc1 := 45) dX2_note_44 rfl (k_val (v' := .int (iI ((((aNo A (oF f m 0)) ||| (2 ^ p)) : Nat) : Int))) (congrArg Value.int iI_or) ?_)
      refine k_goto dX2_note_45 (tgt := 56) rfl ?_
      refine k_val (v' := .int (iI (((ntS (a = 110) (aNo A (oF f m 0)) p) : Nat) : Int))) (congrArg (fun z : Nat => Value.int (iI (z : Int))) (kI_t (by omega)).symm) ?_
      refine k_put (pc1 := 59) dX2_note_56 rfl fp_RX2_32 (Or.inl rfl) hT46 (Nat.le_of_ble_eq_true rfl) rfl rfl ?_
      obtain ⟨h48, eh48⟩ : ∃ z, z = kup h46 (gMt γ (oF f m 0)) (.inr (6, [.int (iI (oF f m 0)), .int (iI (oF f m 1)), .int (iI (((aAk A (oF f m 0)) : Nat) : Int)), .ref (gMd γ (oF f m 0)), .int (iI (((ntS (a = 121) (aYs A (oF f m 0)) p) : Nat) : Int)), .int (iI (((ntS (a = 110) (aNo A (oF f m 0)) p) : Nat) : Int))])) := ⟨_, rfl⟩
      refine k_hp (h' := h48) eh48.symm ?_
      have hT48 : h48 (gMt γ (oF f m 0)) = some (.inr (6, [.int (iI (oF f m 0)), .int (iI (oF f m 1)), .int (iI (((aAk A (oF f m 0)) : Nat) : Int)), .ref (gMd γ (oF f m 0)), .int (iI (((ntS (a = 121) (aYs A (oF f m 0)) p) : Nat) : Int)), .int (iI (((ntS (a = 110) (aNo A (oF f m 0)) p) : Nat) : Int))])) := by rw [eh48]; exact kup_same _ _ _
      have hG48 : ∀ b, b ≠ (gMt γ (oF f m 0)) → h48 b = h b := fun b hb => by rw [eh48]; exact (kup_ne hb).trans (hG46 b hb)
      clear eh48
      exact k_vret dX2_note_59 rfl ⟨rfl, rp_note hC hm0 hm1 hp hold ha hW9 hG48 hT48, hG48⟩
  · skip
    refine k_aload_n (pc1 := 13) dX2_note_12 rfl rfl ?_
    refine k_get (pc1 := 16) dX2_note_13 rfl fd_RX2_48 (rp_M hC (m := m) hm0 hm1) (v := .int (iI (((aYs A (oF f m 0)) : Nat) : Int))) rfl ?_
    refine k_iload_n (pc1 := 17) dX2_note_16 rfl rfl ?_
    refine k_ior (pc1 := 18) dX2_note_17 rfl (k_val (v' := .int (iI ((((aYs A (oF f m 0)) ||| (2 ^ p)) : Nat) : Int))) (congrArg Value.int iI_or) ?_)
    refine k_goto dX2_note_18 (tgt := 29) rfl ?_
    refine k_val (v' := .int (iI (((ntS (a = 121) (aYs A (oF f m 0)) p) : Nat) : Int))) (congrArg (fun z : Nat => Value.int (iI (z : Int))) (kI_t (by omega)).symm) ?_
    refine k_put (pc1 := 32) dX2_note_29 rfl fp_RX2_48 (Or.inl rfl) (rp_M hC (m := m) hm0 hm1) (Nat.le_of_ble_eq_true rfl) rfl rfl ?_
    obtain ⟨h49, eh49⟩ : ∃ z, z = kup h (gMt γ (oF f m 0)) (.inr (6, [.int (iI (oF f m 0)), .int (iI (oF f m 1)), .int (iI (((aAk A (oF f m 0)) : Nat) : Int)), .ref (gMd γ (oF f m 0)), .int (iI (((ntS (a = 121) (aYs A (oF f m 0)) p) : Nat) : Int)), .int (iI (((aNo A (oF f m 0)) : Nat) : Int))])) := ⟨_, rfl⟩
    refine k_hp (h' := h49) eh49.symm ?_
    have hT49 : h49 (gMt γ (oF f m 0)) = some (.inr (6, [.int (iI (oF f m 0)), .int (iI (oF f m 1)), .int (iI (((aAk A (oF f m 0)) : Nat) : Int)), .ref (gMd γ (oF f m 0)), .int (iI (((ntS (a = 121) (aYs A (oF f m 0)) p) : Nat) : Int)), .int (iI (((aNo A (oF f m 0)) : Nat) : Int))])) := by rw [eh49]; exact kup_same _ _ _
    have hG49 : ∀ b, b ≠ (gMt γ (oF f m 0)) → h49 b = h b := fun b hb => by rw [eh49]; exact kup_ne hb
    clear eh49
    refine k_aload_n (pc1 := 33) dX2_note_32 rfl rfl ?_
    refine k_iload_n (pc1 := 34) dX2_note_33 rfl rfl ?_
    refine k_bipush 110 (pc1 := 36) dX2_note_34 rfl (by decide) ?_
    refine k_icmp_ne (a := a) (b := 110) dX2_note_36 rfl (tgt := 48) rfl (by omega) (by decide) (fun c36 : a ≠ 110 => ?_) (fun c36 : a = 110 => ?_)
    · skip
      refine k_aload_n (pc1 := 49) dX2_note_48 rfl rfl ?_
      refine k_get (pc1 := 52) dX2_note_49 rfl fd_RX2_32 hT49 (v := .int (iI (((aNo A (oF f m 0)) : Nat) : Int))) rfl ?_
      refine k_iload_n (pc1 := 53) dX2_note_52 rfl rfl ?_
      refine k_iconst (pc1 := 54) dX2_note_53 rfl ?_
      refine k_ixor (pc1 := 55) dX2_note_54 rfl ?_
      refine k_iand (pc1 := 56) dX2_note_55 rfl (k_val (v' := .int (iI (((kdf (aNo A (oF f m 0)) (2 ^ p)) : Nat) : Int))) (congrArg Value.int (iI_andn (by first | omega | exact kmk_lt _ 6 | exact exM_lt ⟨by omega, by omega⟩ (by first | omega | exact kmk_lt _ 6) | assumption) (by first | omega | exact kmk_lt _ 6 | exact exM_lt ⟨by omega, by omega⟩ (by first | omega | exact kmk_lt _ 6) | assumption))) ?_)
      refine k_val (v' := .int (iI (((ntS (a = 110) (aNo A (oF f m 0)) p) : Nat) : Int))) (congrArg (fun z : Nat => Value.int (iI (z : Int))) (kI_f (by omega)).symm) ?_
      refine k_put (pc1 := 59) dX2_note_56 rfl fp_RX2_32 (Or.inl rfl) hT49 (Nat.le_of_ble_eq_true rfl) rfl rfl ?_
      obtain ⟨h50, eh50⟩ : ∃ z, z = kup h49 (gMt γ (oF f m 0)) (.inr (6, [.int (iI (oF f m 0)), .int (iI (oF f m 1)), .int (iI (((aAk A (oF f m 0)) : Nat) : Int)), .ref (gMd γ (oF f m 0)), .int (iI (((ntS (a = 121) (aYs A (oF f m 0)) p) : Nat) : Int)), .int (iI (((ntS (a = 110) (aNo A (oF f m 0)) p) : Nat) : Int))])) := ⟨_, rfl⟩
      refine k_hp (h' := h50) eh50.symm ?_
      have hT50 : h50 (gMt γ (oF f m 0)) = some (.inr (6, [.int (iI (oF f m 0)), .int (iI (oF f m 1)), .int (iI (((aAk A (oF f m 0)) : Nat) : Int)), .ref (gMd γ (oF f m 0)), .int (iI (((ntS (a = 121) (aYs A (oF f m 0)) p) : Nat) : Int)), .int (iI (((ntS (a = 110) (aNo A (oF f m 0)) p) : Nat) : Int))])) := by rw [eh50]; exact kup_same _ _ _
      have hG50 : ∀ b, b ≠ (gMt γ (oF f m 0)) → h50 b = h b := fun b hb => by rw [eh50]; exact (kup_ne hb).trans (hG49 b hb)
      clear eh50
      exact k_vret dX2_note_59 rfl ⟨rfl, rp_note hC hm0 hm1 hp hold ha hW9 hG50 hT50, hG50⟩
    · skip
      refine k_aload_n (pc1 := 40) dX2_note_39 rfl rfl ?_
      refine k_get (pc1 := 43) dX2_note_40 rfl fd_RX2_32 hT49 (v := .int (iI (((aNo A (oF f m 0)) : Nat) : Int))) rfl ?_
      refine k_iload_n (pc1 := 44) dX2_note_43 rfl rfl ?_
      refine k_ior (pc1 := 45) dX2_note_44 rfl (k_val (v' := .int (iI ((((aNo A (oF f m 0)) ||| (2 ^ p)) : Nat) : Int))) (congrArg Value.int iI_or) ?_)
      refine k_goto dX2_note_45 (tgt := 56) rfl ?_
      refine k_val (v' := .int (iI (((ntS (a = 110) (aNo A (oF f m 0)) p) : Nat) : Int))) (congrArg (fun z : Nat => Value.int (iI (z : Int))) (kI_t (by omega)).symm) ?_
      refine k_put (pc1 := 59) dX2_note_56 rfl fp_RX2_32 (Or.inl rfl) hT49 (Nat.le_of_ble_eq_true rfl) rfl rfl ?_
      obtain ⟨h51, eh51⟩ : ∃ z, z = kup h49 (gMt γ (oF f m 0)) (.inr (6, [.int (iI (oF f m 0)), .int (iI (oF f m 1)), .int (iI (((aAk A (oF f m 0)) : Nat) : Int)), .ref (gMd γ (oF f m 0)), .int (iI (((ntS (a = 121) (aYs A (oF f m 0)) p) : Nat) : Int)), .int (iI (((ntS (a = 110) (aNo A (oF f m 0)) p) : Nat) : Int))])) := ⟨_, rfl⟩
      refine k_hp (h' := h51) eh51.symm ?_
      have hT51 : h51 (gMt γ (oF f m 0)) = some (.inr (6, [.int (iI (oF f m 0)), .int (iI (oF f m 1)), .int (iI (((aAk A (oF f m 0)) : Nat) : Int)), .ref (gMd γ (oF f m 0)), .int (iI (((ntS (a = 121) (aYs A (oF f m 0)) p) : Nat) : Int)), .int (iI (((ntS (a = 110) (aNo A (oF f m 0)) p) : Nat) : Int))])) := by rw [eh51]; exact kup_same _ _ _
      have hG51 : ∀ b, b ≠ (gMt γ (oF f m 0)) → h51 b = h b := fun b hb => by rw [eh51]; exact (kup_ne hb).trans (hG49 b hb)
      clear eh51
      exact k_vret dX2_note_59 rfl ⟨rfl, rp_note hC hm0 hm1 hp hold ha hW9 hG51 hT51, hG51⟩
