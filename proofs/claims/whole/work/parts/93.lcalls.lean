/-! ===== the law: its calls of the class, walked ===== -/
theorem w_L_setRoom {l : Launch} {G : kG} {h : kAH} (hl : l.stackTraces = false) {pl : Nat} {γ : kGh} {A : kAb} {f : Nat → Int} (hC : kRp G h pl γ A f) {a b e : Int} (ra : -2147483648 ≤ a ∧ a < 2147483648) (rb : -2147483648 ≤ b ∧ b < 2147483648) (re : -2147483648 ≤ e ∧ e < 2147483648) {ol : Nat} {F9 : Nat → Int64} (hO : h ol = some (klo1 G 1 F9)) (hO0 : gOw γ ol = (0, 0)) : kC l G m_L_setRoom 3 1 6 [.ref pl, .int (iI a), .int (iI b), .int (iI e), .ref ol] h (kLw G pl ol γ h (TsetRoom f a b e) (Int32.toInt64 (iI (TsetRoom f a b e).2.1))) kNo := by
  refine kC_ofH hl rfl rfl (Nat.le_of_ble_eq_true rfl) (L := [some (.ref pl), some (.int (iI a)), some (.int (iI b)), some (.int (iI e)), some (.ref ol), none]) rfl ?_
  refine k_aload (pc1 := 2) dL_setRoom_0 rfl rfl ?_
  refine k_iconst (pc1 := 3) dL_setRoom_2 rfl ?_
  refine k_aload_n (pc1 := 4) dL_setRoom_3 rfl rfl ?_
  refine k_iload_n (pc1 := 5) dL_setRoom_4 rfl rfl ?_
  refine k_iload_n (pc1 := 6) dL_setRoom_5 rfl rfl ?_
  refine k_iload_n (pc1 := 7) dL_setRoom_6 rfl rfl ?_
  refine k_callV dL_setRoom_7 rfl lk_RL_7 o_X5_setRoom (as := [.int (iI a), .int (iI b), .int (iI e)]) rfl rfl (rp_P hC) rfl rfl (w_X5_setRoom hl hC ra rb re) (by decide) (by decide) (by decide) (by decide) (k8 rfl) (fun v h1 hv => ?_) (fun E h1 hv => ?_)
  · skip
    obtain ⟨t0, hv1, γ1, A1, hC1, hfr1⟩ := hv
    subst hv1
    obtain ⟨hO1, hO2⟩ := hfr1 ol _ hO hO0
    refine k_st (st' := [.int (iI ((TsetRoom f a b e).2.1)), .int (iI 0), .ref ol]) rfl ?_
    refine k_i2l (pc1 := 11) dL_setRoom_10 rfl ?_
    refine k_last (i := 0) (pc1 := 12) dL_setRoom_11 rfl hO1 (by decide) (by decide) (by decide) ?_
    obtain ⟨h2, eh2⟩ : ∃ z, z = kup h1 ol (klo1 G 1 (vp_updL F9 0 (Int32.toInt64 (iI ((TsetRoom f a b e).2.1))))) := ⟨_, rfl⟩
    refine k_hp (h' := h2) eh2.symm ?_
    have hT2 : h2 ol = some (klo1 G 1 (vp_updL F9 0 (Int32.toInt64 (iI ((TsetRoom f a b e).2.1))))) := by rw [eh2]; exact kup_same _ _ _
    have hG2 : ∀ b, b ≠ ol → h2 b = h1 b := fun b hb => by rw [eh2]; exact kup_ne hb
    clear eh2
    refine k_goto dL_setRoom_12 (tgt := 19) rfl ?_
    refine k_iconst (pc1 := 20) dL_setRoom_19 rfl ?_
    exact k_iret dL_setRoom_20 rfl rfl ⟨by rw [t0], ⟨_, hT2, fun _ => rfl⟩, γ1, A1, rp_un hC1 (fun b e hb h0 => (hG2 b (fun y => h0 (by rw [y]; exact hO2))).trans hb) (fun b hb => by rw [← hG2 b (fun y => by rw [y, hT2] at hb; cases hb)]; exact hb), hO2, fun b e g1 g2 g3 => ⟨(hG2 b g3).trans (hfr1 b e g1 g2).1, (hfr1 b e g1 g2).2⟩⟩
  · skip
    obtain ⟨t0, tE, γ1, A1, hC1, hfr1⟩ := hv
    obtain ⟨hO1, hO2⟩ := hfr1 ol _ hO hO0
    have hco : kCo f (TsetRoom f a b e) := co_setRoom a b e
    have hz9 := (List.getElem?_eq_some_iff.mp tE).1
    change (TsetRoom f a b e).1.toNat < 2 at hz9
    have hz : (TsetRoom f a b e).1 = 1 := by have := hco.1; omega
    rw [hz] at tE
    have eE : "java/lang/IllegalArgumentException" = E := Option.some.inj tE
    subst eE
    refine kx_catch (name := "java/lang/IllegalArgumentException") [] (0, 12, 15, 13) [] rfl (fun z9 hz9 => nomatch hz9) (by decide) (by decide) (by decide) cl_RL_13 (by decide) (fun qx => ?_)
    refine k_astore (pc1 := 17) dL_setRoom_15 rfl (by decide) (k_loc (L' := [some (.ref pl), some (.int (iI a)), some (.int (iI b)), some (.int (iI e)), some (.ref ol), some (.ref qx)]) rfl ?_)
    refine k_iconst (pc1 := 18) dL_setRoom_17 rfl ?_
    exact k_iret dL_setRoom_18 rfl rfl ⟨by rw [hz], ⟨F9, hO1, fun y => absurd y (by omega)⟩, γ1, A1, hC1, hO2, fun b e g1 g2 _ => hfr1 b e g1 g2⟩
theorem w_L_setGap {l : Launch} {G : kG} {h : kAH} (hl : l.stackTraces = false) {pl : Nat} {γ : kGh} {A : kAb} {f : Nat → Int} (hC : kRp G h pl γ A f) {a : Int} (ra : -2147483648 ≤ a ∧ a < 2147483648) {ol : Nat} {F9 : Nat → Int64} (hO : h ol = some (klo1 G 1 F9)) (hO0 : gOw γ ol = (0, 0)) : kC l G m_L_setGap 3 1 6 [.ref pl, .int (iI a), .ref ol] h (kLw G pl ol γ h (TsetGap f a) (Int32.toInt64 (iI (TsetGap f a).2.1))) kNo := by
  refine kC_ofH hl rfl rfl (Nat.le_of_ble_eq_true rfl) (L := [some (.ref pl), some (.int (iI a)), some (.ref ol), none]) rfl ?_
  refine k_aload_n (pc1 := 1) dL_setGap_0 rfl rfl ?_
  refine k_iconst (pc1 := 2) dL_setGap_1 rfl ?_
  refine k_aload_n (pc1 := 3) dL_setGap_2 rfl rfl ?_
  refine k_iload_n (pc1 := 4) dL_setGap_3 rfl rfl ?_
  refine k_callV dL_setGap_4 rfl lk_RL_15 o_X5_setGap (as := [.int (iI a)]) rfl rfl (rp_P hC) rfl rfl (w_X5_setGap hl hC ra) (by decide) (by decide) (by decide) (by decide) (k8 rfl) (fun v h1 hv => ?_) (fun E h1 hv => ?_)
  · skip
    obtain ⟨t0, hv1, γ1, A1, hC1, hfr1⟩ := hv
    subst hv1
    obtain ⟨hO1, hO2⟩ := hfr1 ol _ hO hO0
    refine k_st (st' := [.int (iI ((TsetGap f a).2.1)), .int (iI 0), .ref ol]) rfl ?_
    refine k_i2l (pc1 := 8) dL_setGap_7 rfl ?_
    refine k_last (i := 0) (pc1 := 9) dL_setGap_8 rfl hO1 (by decide) (by decide) (by decide) ?_
    obtain ⟨h2, eh2⟩ : ∃ z, z = kup h1 ol (klo1 G 1 (vp_updL F9 0 (Int32.toInt64 (iI ((TsetGap f a).2.1))))) := ⟨_, rfl⟩
    refine k_hp (h' := h2) eh2.symm ?_
    have hT2 : h2 ol = some (klo1 G 1 (vp_updL F9 0 (Int32.toInt64 (iI ((TsetGap f a).2.1))))) := by rw [eh2]; exact kup_same _ _ _
    have hG2 : ∀ b, b ≠ ol → h2 b = h1 b := fun b hb => by rw [eh2]; exact kup_ne hb
    clear eh2
    refine k_goto dL_setGap_9 (tgt := 15) rfl ?_
    refine k_iconst (pc1 := 16) dL_setGap_15 rfl ?_
    exact k_iret dL_setGap_16 rfl rfl ⟨by rw [t0], ⟨_, hT2, fun _ => rfl⟩, γ1, A1, rp_un hC1 (fun b e hb h0 => (hG2 b (fun y => h0 (by rw [y]; exact hO2))).trans hb) (fun b hb => by rw [← hG2 b (fun y => by rw [y, hT2] at hb; cases hb)]; exact hb), hO2, fun b e g1 g2 g3 => ⟨(hG2 b g3).trans (hfr1 b e g1 g2).1, (hfr1 b e g1 g2).2⟩⟩
  · skip
    obtain ⟨t0, tE, γ1, A1, hC1, hfr1⟩ := hv
    obtain ⟨hO1, hO2⟩ := hfr1 ol _ hO hO0
    have hco : kCo f (TsetGap f a) := co_setGap a
    have hz9 := (List.getElem?_eq_some_iff.mp tE).1
    change (TsetGap f a).1.toNat < 2 at hz9
    have hz : (TsetGap f a).1 = 1 := by have := hco.1; omega
    rw [hz] at tE
    have eE : "java/lang/IllegalArgumentException" = E := Option.some.inj tE
    subst eE
    refine kx_catch (name := "java/lang/IllegalArgumentException") [] (0, 9, 12, 13) [] rfl (fun z9 hz9 => nomatch hz9) (by decide) (by decide) (by decide) cl_RL_13 (by decide) (fun qx => ?_)
    refine k_astore_n (pc1 := 13) dL_setGap_12 rfl (by decide) (k_loc (L' := [some (.ref pl), some (.int (iI a)), some (.ref ol), some (.ref qx)]) rfl ?_)
    refine k_iconst (pc1 := 14) dL_setGap_13 rfl ?_
    exact k_iret dL_setGap_14 rfl rfl ⟨by rw [hz], ⟨F9, hO1, fun y => absurd y (by omega)⟩, γ1, A1, hC1, hO2, fun b e g1 g2 _ => hfr1 b e g1 g2⟩
theorem w_L_seatsOf {l : Launch} {G : kG} {h : kAH} (hl : l.stackTraces = false) {pl : Nat} {γ : kGh} {A : kAb} {f : Nat → Int} (hC : kRp G h pl γ A f) {a : Int} (ra : -2147483648 ≤ a ∧ a < 2147483648) {ol : Nat} {F9 : Nat → Int64} (hO : h ol = some (klo1 G 1 F9)) (hO0 : gOw γ ol = (0, 0)) : kC l G m_L_seatsOf 3 1 6 [.ref pl, .int (iI a), .ref ol] h (kLw G pl ol γ h (TseatsOf f a) (Int32.toInt64 (iI (TseatsOf f a).2.1))) kNo := by
  refine kC_ofH hl rfl rfl (Nat.le_of_ble_eq_true rfl) (L := [some (.ref pl), some (.int (iI a)), some (.ref ol), none]) rfl ?_
  refine k_aload_n (pc1 := 1) dL_seatsOf_0 rfl rfl ?_
  refine k_iconst (pc1 := 2) dL_seatsOf_1 rfl ?_
  refine k_aload_n (pc1 := 3) dL_seatsOf_2 rfl rfl ?_
  refine k_iload_n (pc1 := 4) dL_seatsOf_3 rfl rfl ?_
  refine k_callV dL_seatsOf_4 rfl lk_RL_19 o_X5_seatsOf (as := [.int (iI a)]) rfl rfl (rp_P hC) rfl rfl (w_X5_seatsOf hl hC ra) (by decide) (by decide) (by decide) (by decide) (k8 rfl) (fun v h1 hv => ?_) (fun E h1 hv => ?_)
  · skip
    obtain ⟨t0, hv1, γ1, A1, hC1, hfr1⟩ := hv
    subst hv1
    obtain ⟨hO1, hO2⟩ := hfr1 ol _ hO hO0
    refine k_st (st' := [.int (iI ((TseatsOf f a).2.1)), .int (iI 0), .ref ol]) rfl ?_
    refine k_i2l (pc1 := 8) dL_seatsOf_7 rfl ?_
    refine k_last (i := 0) (pc1 := 9) dL_seatsOf_8 rfl hO1 (by decide) (by decide) (by decide) ?_
    obtain ⟨h2, eh2⟩ : ∃ z, z = kup h1 ol (klo1 G 1 (vp_updL F9 0 (Int32.toInt64 (iI ((TseatsOf f a).2.1))))) := ⟨_, rfl⟩
    refine k_hp (h' := h2) eh2.symm ?_
    have hT2 : h2 ol = some (klo1 G 1 (vp_updL F9 0 (Int32.toInt64 (iI ((TseatsOf f a).2.1))))) := by rw [eh2]; exact kup_same _ _ _
    have hG2 : ∀ b, b ≠ ol → h2 b = h1 b := fun b hb => by rw [eh2]; exact kup_ne hb
    clear eh2
    refine k_goto dL_seatsOf_9 (tgt := 15) rfl ?_
    refine k_iconst (pc1 := 16) dL_seatsOf_15 rfl ?_
    exact k_iret dL_seatsOf_16 rfl rfl ⟨by rw [t0], ⟨_, hT2, fun _ => rfl⟩, γ1, A1, rp_un hC1 (fun b e hb h0 => (hG2 b (fun y => h0 (by rw [y]; exact hO2))).trans hb) (fun b hb => by rw [← hG2 b (fun y => by rw [y, hT2] at hb; cases hb)]; exact hb), hO2, fun b e g1 g2 g3 => ⟨(hG2 b g3).trans (hfr1 b e g1 g2).1, (hfr1 b e g1 g2).2⟩⟩
  · skip
    obtain ⟨t0, tE, γ1, A1, hC1, hfr1⟩ := hv
    obtain ⟨hO1, hO2⟩ := hfr1 ol _ hO hO0
    have hco : kCo f (TseatsOf f a) := co_seatsOf a
    have hz9 := (List.getElem?_eq_some_iff.mp tE).1
    change (TseatsOf f a).1.toNat < 2 at hz9
    have hz : (TseatsOf f a).1 = 1 := by have := hco.1; omega
    rw [hz] at tE
    have eE : "java/lang/IllegalArgumentException" = E := Option.some.inj tE
    subst eE
    refine kx_catch (name := "java/lang/IllegalArgumentException") [] (0, 9, 12, 13) [] rfl (fun z9 hz9 => nomatch hz9) (by decide) (by decide) (by decide) cl_RL_13 (by decide) (fun qx => ?_)
    refine k_astore_n (pc1 := 13) dL_seatsOf_12 rfl (by decide) (k_loc (L' := [some (.ref pl), some (.int (iI a)), some (.ref ol), some (.ref qx)]) rfl ?_)
    refine k_iconst (pc1 := 14) dL_seatsOf_13 rfl ?_
    exact k_iret dL_seatsOf_14 rfl rfl ⟨by rw [hz], ⟨F9, hO1, fun y => absurd y (by omega)⟩, γ1, A1, hC1, hO2, fun b e g1 g2 _ => hfr1 b e g1 g2⟩
theorem w_L_houseOf {l : Launch} {G : kG} {h : kAH} (hl : l.stackTraces = false) {pl : Nat} {γ : kGh} {A : kAb} {f : Nat → Int} (hC : kRp G h pl γ A f) {a : Int} (ra : -2147483648 ≤ a ∧ a < 2147483648) {ol : Nat} {F9 : Nat → Int64} (hO : h ol = some (klo1 G 1 F9)) (hO0 : gOw γ ol = (0, 0)) : kC l G m_L_houseOf 3 1 6 [.ref pl, .int (iI a), .ref ol] h (kLw G pl ol γ h (ThouseOf f a) (Int32.toInt64 (iI (ThouseOf f a).2.1))) kNo := by
  refine kC_ofH hl rfl rfl (Nat.le_of_ble_eq_true rfl) (L := [some (.ref pl), some (.int (iI a)), some (.ref ol), none]) rfl ?_
  refine k_aload_n (pc1 := 1) dL_houseOf_0 rfl rfl ?_
  refine k_iconst (pc1 := 2) dL_houseOf_1 rfl ?_
  refine k_aload_n (pc1 := 3) dL_houseOf_2 rfl rfl ?_
  refine k_iload_n (pc1 := 4) dL_houseOf_3 rfl rfl ?_
  refine k_callV dL_houseOf_4 rfl lk_RL_22 o_X5_houseOf (as := [.int (iI a)]) rfl rfl (rp_P hC) rfl rfl (w_X5_houseOf hl hC ra) (by decide) (by decide) (by decide) (by decide) (k8 rfl) (fun v h1 hv => ?_) (fun E h1 hv => ?_)
  · skip
    obtain ⟨t0, hv1, γ1, A1, hC1, hfr1⟩ := hv
    subst hv1
    obtain ⟨hO1, hO2⟩ := hfr1 ol _ hO hO0
    refine k_st (st' := [.int (iI ((ThouseOf f a).2.1)), .int (iI 0), .ref ol]) rfl ?_
    refine k_i2l (pc1 := 8) dL_houseOf_7 rfl ?_
    refine k_last (i := 0) (pc1 := 9) dL_houseOf_8 rfl hO1 (by decide) (by decide) (by decide) ?_
    obtain ⟨h2, eh2⟩ : ∃ z, z = kup h1 ol (klo1 G 1 (vp_updL F9 0 (Int32.toInt64 (iI ((ThouseOf f a).2.1))))) := ⟨_, rfl⟩
    refine k_hp (h' := h2) eh2.symm ?_
    have hT2 : h2 ol = some (klo1 G 1 (vp_updL F9 0 (Int32.toInt64 (iI ((ThouseOf f a).2.1))))) := by rw [eh2]; exact kup_same _ _ _
    have hG2 : ∀ b, b ≠ ol → h2 b = h1 b := fun b hb => by rw [eh2]; exact kup_ne hb
    clear eh2
    refine k_goto dL_houseOf_9 (tgt := 15) rfl ?_
    refine k_iconst (pc1 := 16) dL_houseOf_15 rfl ?_
    exact k_iret dL_houseOf_16 rfl rfl ⟨by rw [t0], ⟨_, hT2, fun _ => rfl⟩, γ1, A1, rp_un hC1 (fun b e hb h0 => (hG2 b (fun y => h0 (by rw [y]; exact hO2))).trans hb) (fun b hb => by rw [← hG2 b (fun y => by rw [y, hT2] at hb; cases hb)]; exact hb), hO2, fun b e g1 g2 g3 => ⟨(hG2 b g3).trans (hfr1 b e g1 g2).1, (hfr1 b e g1 g2).2⟩⟩
  · skip
    obtain ⟨t0, tE, γ1, A1, hC1, hfr1⟩ := hv
    obtain ⟨hO1, hO2⟩ := hfr1 ol _ hO hO0
    have hco : kCo f (ThouseOf f a) := co_houseOf a
    have hz9 := (List.getElem?_eq_some_iff.mp tE).1
    change (ThouseOf f a).1.toNat < 2 at hz9
    have hz : (ThouseOf f a).1 = 1 := by have := hco.1; omega
    rw [hz] at tE
    have eE : "java/lang/IllegalArgumentException" = E := Option.some.inj tE
    subst eE
    refine kx_catch (name := "java/lang/IllegalArgumentException") [] (0, 9, 12, 13) [] rfl (fun z9 hz9 => nomatch hz9) (by decide) (by decide) (by decide) cl_RL_13 (by decide) (fun qx => ?_)
    refine k_astore_n (pc1 := 13) dL_houseOf_12 rfl (by decide) (k_loc (L' := [some (.ref pl), some (.int (iI a)), some (.ref ol), some (.ref qx)]) rfl ?_)
    refine k_iconst (pc1 := 14) dL_houseOf_13 rfl ?_
    exact k_iret dL_houseOf_14 rfl rfl ⟨by rw [hz], ⟨F9, hO1, fun y => absurd y (by omega)⟩, γ1, A1, hC1, hO2, fun b e g1 g2 _ => hfr1 b e g1 g2⟩
theorem w_L_ask {l : Launch} {G : kG} {h : kAH} (hl : l.stackTraces = false) {pl : Nat} {γ : kGh} {A : kAb} {f : Nat → Int} (hC : kRp G h pl γ A f) (hnx9 : f 2 < 1000000) {hs a k t n : Int} (rhs : -2147483648 ≤ hs ∧ hs < 2147483648) (ra : -2147483648 ≤ a ∧ a < 2147483648) (rk : -2147483648 ≤ k ∧ k < 2147483648) (rt : -2147483648 ≤ t ∧ t < 2147483648) (rn : -2147483648 ≤ n ∧ n < 2147483648) {ol : Nat} {F9 : Nat → Int64} (hO : h ol = some (klo1 G 1 F9)) (hO0 : gOw γ ol = (0, 0)) : kC l G m_L_ask 11 34 4200 [.ref pl, .int (iI hs), .int (iI a), .int (iI k), .int (iI t), .int (iI n), .ref ol] h (kLw G pl ol γ h (Task f hs a k t n) (Int32.toInt64 (iI (Task f hs a k t n).2.1))) kNo := by
  refine kC_ofH hl rfl rfl (Nat.le_of_ble_eq_true rfl) (L := [some (.ref pl), some (.int (iI hs)), some (.int (iI a)), some (.int (iI k)), some (.int (iI t)), some (.int (iI n)), some (.ref ol), none]) rfl ?_
  refine k_aload (pc1 := 2) dL_ask_0 rfl rfl ?_
  refine k_iconst (pc1 := 3) dL_ask_2 rfl ?_
  refine k_aload_n (pc1 := 4) dL_ask_3 rfl rfl ?_
  refine k_iload_n (pc1 := 5) dL_ask_4 rfl rfl ?_
  refine k_iload_n (pc1 := 6) dL_ask_5 rfl rfl ?_
  refine k_iload_n (pc1 := 7) dL_ask_6 rfl rfl ?_
  refine k_iload (pc1 := 9) dL_ask_7 rfl rfl ?_
  refine k_iload (pc1 := 11) dL_ask_9 rfl rfl ?_
  refine k_callV dL_ask_11 rfl lk_RL_25 o_X5_ask (as := [.int (iI hs), .int (iI a), .int (iI k), .int (iI t), .int (iI n)]) rfl rfl (rp_P hC) rfl rfl (w_X5_ask hl hC hnx9 rhs ra rk rt rn) (by decide) (by decide) (by decide) (by decide) (k8 rfl) (fun v h1 hv => ?_) (fun E h1 hv => ?_)
  · skip
    obtain ⟨t0, hv1, γ1, A1, hC1, hfr1⟩ := hv
    subst hv1
    obtain ⟨hO1, hO2⟩ := hfr1 ol _ hO hO0
    refine k_st (st' := [.int (iI ((Task f hs a k t n).2.1)), .int (iI 0), .ref ol]) rfl ?_
    refine k_i2l (pc1 := 15) dL_ask_14 rfl ?_
    refine k_last (i := 0) (pc1 := 16) dL_ask_15 rfl hO1 (by decide) (by decide) (by decide) ?_
    obtain ⟨h2, eh2⟩ : ∃ z, z = kup h1 ol (klo1 G 1 (vp_updL F9 0 (Int32.toInt64 (iI ((Task f hs a k t n).2.1))))) := ⟨_, rfl⟩
    refine k_hp (h' := h2) eh2.symm ?_
    have hT2 : h2 ol = some (klo1 G 1 (vp_updL F9 0 (Int32.toInt64 (iI ((Task f hs a k t n).2.1))))) := by rw [eh2]; exact kup_same _ _ _
    have hG2 : ∀ b, b ≠ ol → h2 b = h1 b := fun b hb => by rw [eh2]; exact kup_ne hb
    clear eh2
    refine k_goto dL_ask_16 (tgt := 31) rfl ?_
    refine k_iconst (pc1 := 32) dL_ask_31 rfl ?_
    exact k_iret dL_ask_32 rfl rfl ⟨by rw [t0], ⟨_, hT2, fun _ => rfl⟩, γ1, A1, rp_un hC1 (fun b e hb h0 => (hG2 b (fun y => h0 (by rw [y]; exact hO2))).trans hb) (fun b hb => by rw [← hG2 b (fun y => by rw [y, hT2] at hb; cases hb)]; exact hb), hO2, fun b e g1 g2 g3 => ⟨(hG2 b g3).trans (hfr1 b e g1 g2).1, (hfr1 b e g1 g2).2⟩⟩
  · skip
    obtain ⟨t0, tE, γ1, A1, hC1, hfr1⟩ := hv
    obtain ⟨hO1, hO2⟩ := hfr1 ol _ hO hO0
    have hco : kCo f (Task f hs a k t n) := co_ask hC.2.2 hs a k t n
    have hz9 := (List.getElem?_eq_some_iff.mp tE).1
    change (Task f hs a k t n).1.toNat < 4 at hz9
    have hz : (Task f hs a k t n).1 = 1 ∨ (Task f hs a k t n).1 = 2 ∨ (Task f hs a k t n).1 = 3 := by have := hco.1; omega
    rcases hz with hz | hz | hz
    · skip
      rw [hz] at tE
      have eE : "java/lang/IllegalArgumentException" = E := Option.some.inj tE
      subst eE
      refine kx_catch (name := "java/lang/IllegalArgumentException") [] (0, 16, 19, 13) [(0, 16, 23, 29), (0, 16, 27, 31)] rfl (fun z9 hz9 => nomatch hz9) (by decide) (by decide) (by decide) cl_RL_13 (by decide) (fun qx => ?_)
      refine k_astore (pc1 := 21) dL_ask_19 rfl (by decide) (k_loc (L' := [some (.ref pl), some (.int (iI hs)), some (.int (iI a)), some (.int (iI k)), some (.int (iI t)), some (.int (iI n)), some (.ref ol), some (.ref qx)]) rfl ?_)
      refine k_iconst (pc1 := 22) dL_ask_21 rfl ?_
      exact k_iret dL_ask_22 rfl rfl ⟨by rw [hz], ⟨F9, hO1, fun y => absurd y (by omega)⟩, γ1, A1, hC1, hO2, fun b e g1 g2 _ => hfr1 b e g1 g2⟩
    · skip
      rw [hz] at tE
      have eE : "java/lang/IllegalStateException" = E := Option.some.inj tE
      subst eE
      refine kx_catch (name := "java/lang/IllegalStateException") [(0, 16, 19, 13)] (0, 16, 23, 29) [(0, 16, 27, 31)] rfl (List.forall_mem_cons.mpr ⟨⟨by decide, _, cl_RL_13, by decide⟩, (fun z9 hz9 => nomatch hz9)⟩) (by decide) (by decide) (by decide) cl_RL_29 (by decide) (fun qx => ?_)
      refine k_astore (pc1 := 25) dL_ask_23 rfl (by decide) (k_loc (L' := [some (.ref pl), some (.int (iI hs)), some (.int (iI a)), some (.int (iI k)), some (.int (iI t)), some (.int (iI n)), some (.ref ol), some (.ref qx)]) rfl ?_)
      refine k_iconst (pc1 := 26) dL_ask_25 rfl ?_
      exact k_iret dL_ask_26 rfl rfl ⟨by rw [hz], ⟨F9, hO1, fun y => absurd y (by omega)⟩, γ1, A1, hC1, hO2, fun b e g1 g2 _ => hfr1 b e g1 g2⟩
    · skip
      rw [hz] at tE
      have eE : "java/lang/UnsupportedOperationException" = E := Option.some.inj tE
      subst eE
      refine kx_catch (name := "java/lang/UnsupportedOperationException") [(0, 16, 19, 13), (0, 16, 23, 29)] (0, 16, 27, 31) [] rfl (List.forall_mem_cons.mpr ⟨⟨by decide, _, cl_RL_13, by decide⟩, (List.forall_mem_cons.mpr ⟨⟨by decide, _, cl_RL_29, by decide⟩, (fun z9 hz9 => nomatch hz9)⟩)⟩) (by decide) (by decide) (by decide) cl_RL_31 (by decide) (fun qx => ?_)
      refine k_astore (pc1 := 29) dL_ask_27 rfl (by decide) (k_loc (L' := [some (.ref pl), some (.int (iI hs)), some (.int (iI a)), some (.int (iI k)), some (.int (iI t)), some (.int (iI n)), some (.ref ol), some (.ref qx)]) rfl ?_)
      refine k_iconst (pc1 := 30) dL_ask_29 rfl ?_
      exact k_iret dL_ask_30 rfl rfl ⟨by rw [hz], ⟨F9, hO1, fun y => absurd y (by omega)⟩, γ1, A1, hC1, hO2, fun b e g1 g2 _ => hfr1 b e g1 g2⟩
theorem w_L_extend {l : Launch} {G : kG} {h : kAH} (hl : l.stackTraces = false) {pl : Nat} {γ : kGh} {A : kAb} {f : Nat → Int} (hC : kRp G h pl γ A f) {n k e : Int} (rn : -2147483648 ≤ n ∧ n < 2147483648) (rk : -2147483648 ≤ k ∧ k < 2147483648) (re : -2147483648 ≤ e ∧ e < 2147483648) {ol : Nat} {F9 : Nat → Int64} (hO : h ol = some (klo1 G 1 F9)) (hO0 : gOw γ ol = (0, 0)) : kC l G m_L_extend 11 38 4700 [.ref pl, .int (iI n), .int (iI k), .int (iI e), .ref ol] h (kLw G pl ol γ h (Textend f n k e) (Int32.toInt64 (iI (Textend f n k e).2.1))) kNo := by
  refine kC_ofH hl rfl rfl (Nat.le_of_ble_eq_true rfl) (L := [some (.ref pl), some (.int (iI n)), some (.int (iI k)), some (.int (iI e)), some (.ref ol), none]) rfl ?_
  refine k_aload (pc1 := 2) dL_extend_0 rfl rfl ?_
  refine k_iconst (pc1 := 3) dL_extend_2 rfl ?_
  refine k_aload_n (pc1 := 4) dL_extend_3 rfl rfl ?_
  refine k_iload_n (pc1 := 5) dL_extend_4 rfl rfl ?_
  refine k_iload_n (pc1 := 6) dL_extend_5 rfl rfl ?_
  refine k_iload_n (pc1 := 7) dL_extend_6 rfl rfl ?_
  refine k_callV dL_extend_7 rfl lk_RL_33 o_X5_extend (as := [.int (iI n), .int (iI k), .int (iI e)]) rfl rfl (rp_P hC) rfl rfl (w_X5_extend hl hC rn rk re) (by decide) (by decide) (by decide) (by decide) (k8 rfl) (fun v h1 hv => ?_) (fun E h1 hv => ?_)
  · skip
    obtain ⟨t0, hv1, γ1, A1, hC1, hfr1⟩ := hv
    subst hv1
    obtain ⟨hO1, hO2⟩ := hfr1 ol _ hO hO0
    refine k_st (st' := [.int (iI ((Textend f n k e).2.1)), .int (iI 0), .ref ol]) rfl ?_
    refine k_i2l (pc1 := 11) dL_extend_10 rfl ?_
    refine k_last (i := 0) (pc1 := 12) dL_extend_11 rfl hO1 (by decide) (by decide) (by decide) ?_
    obtain ⟨h2, eh2⟩ : ∃ z, z = kup h1 ol (klo1 G 1 (vp_updL F9 0 (Int32.toInt64 (iI ((Textend f n k e).2.1))))) := ⟨_, rfl⟩
    refine k_hp (h' := h2) eh2.symm ?_
    have hT2 : h2 ol = some (klo1 G 1 (vp_updL F9 0 (Int32.toInt64 (iI ((Textend f n k e).2.1))))) := by rw [eh2]; exact kup_same _ _ _
    have hG2 : ∀ b, b ≠ ol → h2 b = h1 b := fun b hb => by rw [eh2]; exact kup_ne hb
    clear eh2
    refine k_goto dL_extend_12 (tgt := 31) rfl ?_
    refine k_iconst (pc1 := 32) dL_extend_31 rfl ?_
    exact k_iret dL_extend_32 rfl rfl ⟨by rw [t0], ⟨_, hT2, fun _ => rfl⟩, γ1, A1, rp_un hC1 (fun b e hb h0 => (hG2 b (fun y => h0 (by rw [y]; exact hO2))).trans hb) (fun b hb => by rw [← hG2 b (fun y => by rw [y, hT2] at hb; cases hb)]; exact hb), hO2, fun b e g1 g2 g3 => ⟨(hG2 b g3).trans (hfr1 b e g1 g2).1, (hfr1 b e g1 g2).2⟩⟩
  · skip
    obtain ⟨t0, tE, γ1, A1, hC1, hfr1⟩ := hv
    obtain ⟨hO1, hO2⟩ := hfr1 ol _ hO hO0
    have hco : kCo f (Textend f n k e) := co_extend hC.2.2 n k e
    have hz9 := (List.getElem?_eq_some_iff.mp tE).1
    change (Textend f n k e).1.toNat < 5 at hz9
    have hz : (Textend f n k e).1 = 1 ∨ (Textend f n k e).1 = 2 ∨ (Textend f n k e).1 = 3 ∨ (Textend f n k e).1 = 4 := by have := hco.1; omega
    rcases hz with hz | hz | hz | hz
    · skip
      rw [hz] at tE
      have eE : "java/util/NoSuchElementException" = E := Option.some.inj tE
      subst eE
      refine kx_catch (name := "java/util/NoSuchElementException") [] (0, 12, 15, 36) [(0, 12, 19, 13), (0, 12, 23, 29), (0, 12, 27, 31)] rfl (fun z9 hz9 => nomatch hz9) (by decide) (by decide) (by decide) cl_RL_36 (by decide) (fun qx => ?_)
      refine k_astore (pc1 := 17) dL_extend_15 rfl (by decide) (k_loc (L' := [some (.ref pl), some (.int (iI n)), some (.int (iI k)), some (.int (iI e)), some (.ref ol), some (.ref qx)]) rfl ?_)
      refine k_iconst (pc1 := 18) dL_extend_17 rfl ?_
      exact k_iret dL_extend_18 rfl rfl ⟨by rw [hz], ⟨F9, hO1, fun y => absurd y (by omega)⟩, γ1, A1, hC1, hO2, fun b e g1 g2 _ => hfr1 b e g1 g2⟩
    · skip
      rw [hz] at tE
      have eE : "java/lang/IllegalArgumentException" = E := Option.some.inj tE
      subst eE
      refine kx_catch (name := "java/lang/IllegalArgumentException") [(0, 12, 15, 36)] (0, 12, 19, 13) [(0, 12, 23, 29), (0, 12, 27, 31)] rfl (List.forall_mem_cons.mpr ⟨⟨by decide, _, cl_RL_36, by decide⟩, (fun z9 hz9 => nomatch hz9)⟩) (by decide) (by decide) (by decide) cl_RL_13 (by decide) (fun qx => ?_)
      refine k_astore (pc1 := 21) dL_extend_19 rfl (by decide) (k_loc (L' := [some (.ref pl), some (.int (iI n)), some (.int (iI k)), some (.int (iI e)), some (.ref ol), some (.ref qx)]) rfl ?_)
      refine k_iconst (pc1 := 22) dL_extend_21 rfl ?_
      exact k_iret dL_extend_22 rfl rfl ⟨by rw [hz], ⟨F9, hO1, fun y => absurd y (by omega)⟩, γ1, A1, hC1, hO2, fun b e g1 g2 _ => hfr1 b e g1 g2⟩
    · skip
      rw [hz] at tE
      have eE : "java/lang/IllegalStateException" = E := Option.some.inj tE
      subst eE
      refine kx_catch (name := "java/lang/IllegalStateException") [(0, 12, 15, 36), (0, 12, 19, 13)] (0, 12, 23, 29) [(0, 12, 27, 31)] rfl (List.forall_mem_cons.mpr ⟨⟨by decide, _, cl_RL_36, by decide⟩, (List.forall_mem_cons.mpr ⟨⟨by decide, _, cl_RL_13, by decide⟩, (fun z9 hz9 => nomatch hz9)⟩)⟩) (by decide) (by decide) (by decide) cl_RL_29 (by decide) (fun qx => ?_)
      refine k_astore (pc1 := 25) dL_extend_23 rfl (by decide) (k_loc (L' := [some (.ref pl), some (.int (iI n)), some (.int (iI k)), some (.int (iI e)), some (.ref ol), some (.ref qx)]) rfl ?_)
      refine k_iconst (pc1 := 26) dL_extend_25 rfl ?_
      exact k_iret dL_extend_26 rfl rfl ⟨by rw [hz], ⟨F9, hO1, fun y => absurd y (by omega)⟩, γ1, A1, hC1, hO2, fun b e g1 g2 _ => hfr1 b e g1 g2⟩
    · skip
      rw [hz] at tE
      have eE : "java/lang/UnsupportedOperationException" = E := Option.some.inj tE
      subst eE
      refine kx_catch (name := "java/lang/UnsupportedOperationException") [(0, 12, 15, 36), (0, 12, 19, 13), (0, 12, 23, 29)] (0, 12, 27, 31) [] rfl (List.forall_mem_cons.mpr ⟨⟨by decide, _, cl_RL_36, by decide⟩, (List.forall_mem_cons.mpr ⟨⟨by decide, _, cl_RL_13, by decide⟩, (List.forall_mem_cons.mpr ⟨⟨by decide, _, cl_RL_29, by decide⟩, (fun z9 hz9 => nomatch hz9)⟩)⟩)⟩) (by decide) (by decide) (by decide) cl_RL_31 (by decide) (fun qx => ?_)
      refine k_astore (pc1 := 29) dL_extend_27 rfl (by decide) (k_loc (L' := [some (.ref pl), some (.int (iI n)), some (.int (iI k)), some (.int (iI e)), some (.ref ol), some (.ref qx)]) rfl ?_)
      refine k_iconst (pc1 := 30) dL_extend_29 rfl ?_
      exact k_iret dL_extend_30 rfl rfl ⟨by rw [hz], ⟨F9, hO1, fun y => absurd y (by omega)⟩, γ1, A1, hC1, hO2, fun b e g1 g2 _ => hfr1 b e g1 g2⟩
theorem w_L_remove {l : Launch} {G : kG} {h : kAH} (hl : l.stackTraces = false) {pl : Nat} {γ : kGh} {A : kAb} {f : Nat → Int} (hC : kRp G h pl γ A f) {n : Int} (rn : -2147483648 ≤ n ∧ n < 2147483648) {ol : Nat} {F9 : Nat → Int64} (hO : h ol = some (klo1 G 1 F9)) (hO0 : gOw γ ol = (0, 0)) : kC l G m_L_remove 7 1 6 [.ref pl, .int (iI n), .ref ol] h (kLw G pl ol γ h (Tremove f n) (Int32.toInt64 (iI (Tremove f n).2.1))) kNo := by
  refine kC_ofH hl rfl rfl (Nat.le_of_ble_eq_true rfl) (L := [some (.ref pl), some (.int (iI n)), some (.ref ol), none]) rfl ?_
  refine k_aload_n (pc1 := 1) dL_remove_0 rfl rfl ?_
  refine k_iconst (pc1 := 2) dL_remove_1 rfl ?_
  refine k_aload_n (pc1 := 3) dL_remove_2 rfl rfl ?_
  refine k_iload_n (pc1 := 4) dL_remove_3 rfl rfl ?_
  refine k_callV dL_remove_4 rfl lk_RL_38 o_X5_remove (as := [.int (iI n)]) rfl rfl (rp_P hC) rfl rfl (w_X5_remove hl hC rn) (by decide) (by decide) (by decide) (by decide) (k8 rfl) (fun v h1 hv => ?_) (fun E h1 hv => ?_)
  · skip
    obtain ⟨t0, hv1, γ1, A1, hC1, hfr1⟩ := hv
    subst hv1
    obtain ⟨hO1, hO2⟩ := hfr1 ol _ hO hO0
    refine k_st (st' := [.int (iI ((Tremove f n).2.1)), .int (iI 0), .ref ol]) rfl ?_
    refine k_i2l (pc1 := 8) dL_remove_7 rfl ?_
    refine k_last (i := 0) (pc1 := 9) dL_remove_8 rfl hO1 (by decide) (by decide) (by decide) ?_
    obtain ⟨h2, eh2⟩ : ∃ z, z = kup h1 ol (klo1 G 1 (vp_updL F9 0 (Int32.toInt64 (iI ((Tremove f n).2.1))))) := ⟨_, rfl⟩
    refine k_hp (h' := h2) eh2.symm ?_
    have hT2 : h2 ol = some (klo1 G 1 (vp_updL F9 0 (Int32.toInt64 (iI ((Tremove f n).2.1))))) := by rw [eh2]; exact kup_same _ _ _
    have hG2 : ∀ b, b ≠ ol → h2 b = h1 b := fun b hb => by rw [eh2]; exact kup_ne hb
    clear eh2
    refine k_goto dL_remove_9 (tgt := 15) rfl ?_
    refine k_iconst (pc1 := 16) dL_remove_15 rfl ?_
    exact k_iret dL_remove_16 rfl rfl ⟨by rw [t0], ⟨_, hT2, fun _ => rfl⟩, γ1, A1, rp_un hC1 (fun b e hb h0 => (hG2 b (fun y => h0 (by rw [y]; exact hO2))).trans hb) (fun b hb => by rw [← hG2 b (fun y => by rw [y, hT2] at hb; cases hb)]; exact hb), hO2, fun b e g1 g2 g3 => ⟨(hG2 b g3).trans (hfr1 b e g1 g2).1, (hfr1 b e g1 g2).2⟩⟩
  · skip
    obtain ⟨t0, tE, γ1, A1, hC1, hfr1⟩ := hv
    obtain ⟨hO1, hO2⟩ := hfr1 ol _ hO hO0
    have hco : kCo f (Tremove f n) := co_remove n
    have hz9 := (List.getElem?_eq_some_iff.mp tE).1
    change (Tremove f n).1.toNat < 2 at hz9
    have hz : (Tremove f n).1 = 1 := by have := hco.1; omega
    rw [hz] at tE
    have eE : "java/util/NoSuchElementException" = E := Option.some.inj tE
    subst eE
    refine kx_catch (name := "java/util/NoSuchElementException") [] (0, 9, 12, 36) [] rfl (fun z9 hz9 => nomatch hz9) (by decide) (by decide) (by decide) cl_RL_36 (by decide) (fun qx => ?_)
    refine k_astore_n (pc1 := 13) dL_remove_12 rfl (by decide) (k_loc (L' := [some (.ref pl), some (.int (iI n)), some (.ref ol), some (.ref qx)]) rfl ?_)
    refine k_iconst (pc1 := 14) dL_remove_13 rfl ?_
    exact k_iret dL_remove_14 rfl rfl ⟨by rw [hz], ⟨F9, hO1, fun y => absurd y (by omega)⟩, γ1, A1, hC1, hO2, fun b e g1 g2 _ => hfr1 b e g1 g2⟩
theorem w_L_answer {l : Launch} {G : kG} {h : kAH} (hl : l.stackTraces = false) {pl : Nat} {γ : kGh} {A : kAb} {f : Nat → Int} (hC : kRp G h pl γ A f) {n p a : Int} (rn : -2147483648 ≤ n ∧ n < 2147483648) (rp : -2147483648 ≤ p ∧ p < 2147483648) (ha : 0 ≤ a ∧ a < 65536) {ol : Nat} {F9 : Nat → Int64} (hO : h ol = some (klo1 G 1 F9)) (hO0 : gOw γ ol = (0, 0)) : kC l G m_L_answer 7 1 6 [.ref pl, .int (iI n), .int (iI p), .int (iI a), .ref ol] h (kLw G pl ol γ h (Tanswer f n p a) (Int32.toInt64 (iI (Tanswer f n p a).2.1))) kNo := by
  refine kC_ofH hl rfl rfl (Nat.le_of_ble_eq_true rfl) (L := [some (.ref pl), some (.int (iI n)), some (.int (iI p)), some (.int (iI a)), some (.ref ol), none]) rfl ?_
  refine k_aload (pc1 := 2) dL_answer_0 rfl rfl ?_
  refine k_iconst (pc1 := 3) dL_answer_2 rfl ?_
  refine k_aload_n (pc1 := 4) dL_answer_3 rfl rfl ?_
  refine k_iload_n (pc1 := 5) dL_answer_4 rfl rfl ?_
  refine k_iload_n (pc1 := 6) dL_answer_5 rfl rfl ?_
  refine k_iload_n (pc1 := 7) dL_answer_6 rfl rfl ?_
  refine k_callV dL_answer_7 rfl lk_RL_41 o_X5_answer (as := [.int (iI n), .int (iI p), .int (iI a)]) rfl rfl (rp_P hC) rfl rfl (w_X5_answer hl hC rn rp ha) (by decide) (by decide) (by decide) (by decide) (k8 rfl) (fun v h1 hv => ?_) (fun E h1 hv => ?_)
  · skip
    obtain ⟨t0, hv1, γ1, A1, hC1, hfr1⟩ := hv
    subst hv1
    obtain ⟨hO1, hO2⟩ := hfr1 ol _ hO hO0
    refine k_st (st' := [.int (iI ((Tanswer f n p a).2.1)), .int (iI 0), .ref ol]) rfl ?_
    refine k_i2l (pc1 := 11) dL_answer_10 rfl ?_
    refine k_last (i := 0) (pc1 := 12) dL_answer_11 rfl hO1 (by decide) (by decide) (by decide) ?_
    obtain ⟨h2, eh2⟩ : ∃ z, z = kup h1 ol (klo1 G 1 (vp_updL F9 0 (Int32.toInt64 (iI ((Tanswer f n p a).2.1))))) := ⟨_, rfl⟩
    refine k_hp (h' := h2) eh2.symm ?_
    have hT2 : h2 ol = some (klo1 G 1 (vp_updL F9 0 (Int32.toInt64 (iI ((Tanswer f n p a).2.1))))) := by rw [eh2]; exact kup_same _ _ _
    have hG2 : ∀ b, b ≠ ol → h2 b = h1 b := fun b hb => by rw [eh2]; exact kup_ne hb
    clear eh2
    refine k_goto dL_answer_12 (tgt := 31) rfl ?_
    refine k_iconst (pc1 := 32) dL_answer_31 rfl ?_
    exact k_iret dL_answer_32 rfl rfl ⟨by rw [t0], ⟨_, hT2, fun _ => rfl⟩, γ1, A1, rp_un hC1 (fun b e hb h0 => (hG2 b (fun y => h0 (by rw [y]; exact hO2))).trans hb) (fun b hb => by rw [← hG2 b (fun y => by rw [y, hT2] at hb; cases hb)]; exact hb), hO2, fun b e g1 g2 g3 => ⟨(hG2 b g3).trans (hfr1 b e g1 g2).1, (hfr1 b e g1 g2).2⟩⟩
  · skip
    obtain ⟨t0, tE, γ1, A1, hC1, hfr1⟩ := hv
    obtain ⟨hO1, hO2⟩ := hfr1 ol _ hO hO0
    have hco : kCo f (Tanswer f n p a) := co_answer n p a
    have hz9 := (List.getElem?_eq_some_iff.mp tE).1
    change (Tanswer f n p a).1.toNat < 5 at hz9
    have hz : (Tanswer f n p a).1 = 1 ∨ (Tanswer f n p a).1 = 2 ∨ (Tanswer f n p a).1 = 3 ∨ (Tanswer f n p a).1 = 4 := by have := hco.1; omega
    rcases hz with hz | hz | hz | hz
    · skip
      rw [hz] at tE
      have eE : "java/util/NoSuchElementException" = E := Option.some.inj tE
      subst eE
      refine kx_catch (name := "java/util/NoSuchElementException") [] (0, 12, 15, 36) [(0, 12, 19, 13), (0, 12, 23, 29), (0, 12, 27, 31)] rfl (fun z9 hz9 => nomatch hz9) (by decide) (by decide) (by decide) cl_RL_36 (by decide) (fun qx => ?_)
      refine k_astore (pc1 := 17) dL_answer_15 rfl (by decide) (k_loc (L' := [some (.ref pl), some (.int (iI n)), some (.int (iI p)), some (.int (iI a)), some (.ref ol), some (.ref qx)]) rfl ?_)
      refine k_iconst (pc1 := 18) dL_answer_17 rfl ?_
      exact k_iret dL_answer_18 rfl rfl ⟨by rw [hz], ⟨F9, hO1, fun y => absurd y (by omega)⟩, γ1, A1, hC1, hO2, fun b e g1 g2 _ => hfr1 b e g1 g2⟩
    · skip
      rw [hz] at tE
      have eE : "java/lang/IllegalArgumentException" = E := Option.some.inj tE
      subst eE
      refine kx_catch (name := "java/lang/IllegalArgumentException") [(0, 12, 15, 36)] (0, 12, 19, 13) [(0, 12, 23, 29), (0, 12, 27, 31)] rfl (List.forall_mem_cons.mpr ⟨⟨by decide, _, cl_RL_36, by decide⟩, (fun z9 hz9 => nomatch hz9)⟩) (by decide) (by decide) (by decide) cl_RL_13 (by decide) (fun qx => ?_)
      refine k_astore (pc1 := 21) dL_answer_19 rfl (by decide) (k_loc (L' := [some (.ref pl), some (.int (iI n)), some (.int (iI p)), some (.int (iI a)), some (.ref ol), some (.ref qx)]) rfl ?_)
      refine k_iconst (pc1 := 22) dL_answer_21 rfl ?_
      exact k_iret dL_answer_22 rfl rfl ⟨by rw [hz], ⟨F9, hO1, fun y => absurd y (by omega)⟩, γ1, A1, hC1, hO2, fun b e g1 g2 _ => hfr1 b e g1 g2⟩
    · skip
      rw [hz] at tE
      have eE : "java/lang/IllegalStateException" = E := Option.some.inj tE
      subst eE
      refine kx_catch (name := "java/lang/IllegalStateException") [(0, 12, 15, 36), (0, 12, 19, 13)] (0, 12, 23, 29) [(0, 12, 27, 31)] rfl (List.forall_mem_cons.mpr ⟨⟨by decide, _, cl_RL_36, by decide⟩, (List.forall_mem_cons.mpr ⟨⟨by decide, _, cl_RL_13, by decide⟩, (fun z9 hz9 => nomatch hz9)⟩)⟩) (by decide) (by decide) (by decide) cl_RL_29 (by decide) (fun qx => ?_)
      refine k_astore (pc1 := 25) dL_answer_23 rfl (by decide) (k_loc (L' := [some (.ref pl), some (.int (iI n)), some (.int (iI p)), some (.int (iI a)), some (.ref ol), some (.ref qx)]) rfl ?_)
      refine k_iconst (pc1 := 26) dL_answer_25 rfl ?_
      exact k_iret dL_answer_26 rfl rfl ⟨by rw [hz], ⟨F9, hO1, fun y => absurd y (by omega)⟩, γ1, A1, hC1, hO2, fun b e g1 g2 _ => hfr1 b e g1 g2⟩
    · skip
      rw [hz] at tE
      have eE : "java/lang/UnsupportedOperationException" = E := Option.some.inj tE
      subst eE
      refine kx_catch (name := "java/lang/UnsupportedOperationException") [(0, 12, 15, 36), (0, 12, 19, 13), (0, 12, 23, 29)] (0, 12, 27, 31) [] rfl (List.forall_mem_cons.mpr ⟨⟨by decide, _, cl_RL_36, by decide⟩, (List.forall_mem_cons.mpr ⟨⟨by decide, _, cl_RL_13, by decide⟩, (List.forall_mem_cons.mpr ⟨⟨by decide, _, cl_RL_29, by decide⟩, (fun z9 hz9 => nomatch hz9)⟩)⟩)⟩) (by decide) (by decide) (by decide) cl_RL_31 (by decide) (fun qx => ?_)
      refine k_astore (pc1 := 29) dL_answer_27 rfl (by decide) (k_loc (L' := [some (.ref pl), some (.int (iI n)), some (.int (iI p)), some (.int (iI a)), some (.ref ol), some (.ref qx)]) rfl ?_)
      refine k_iconst (pc1 := 30) dL_answer_29 rfl ?_
      exact k_iret dL_answer_30 rfl rfl ⟨by rw [hz], ⟨F9, hO1, fun y => absurd y (by omega)⟩, γ1, A1, hC1, hO2, fun b e g1 g2 _ => hfr1 b e g1 g2⟩
theorem w_L_cancel {l : Launch} {G : kG} {h : kAH} (hl : l.stackTraces = false) {pl : Nat} {γ : kGh} {A : kAb} {f : Nat → Int} (hC : kRp G h pl γ A f) {n x : Int} (rn : -2147483648 ≤ n ∧ n < 2147483648) (rx : -2147483648 ≤ x ∧ x < 2147483648) {ol : Nat} {F9 : Nat → Int64} (hO : h ol = some (klo1 G 1 F9)) (hO0 : gOw γ ol = (0, 0)) : kC l G m_L_cancel 7 1 6 [.ref pl, .int (iI n), .int (iI x), .ref ol] h (kLw G pl ol γ h (Tcancel f n x) (Int32.toInt64 (iI (Tcancel f n x).2.1))) kNo := by
  refine kC_ofH hl rfl rfl (Nat.le_of_ble_eq_true rfl) (L := [some (.ref pl), some (.int (iI n)), some (.int (iI x)), some (.ref ol), none]) rfl ?_
  refine k_aload_n (pc1 := 1) dL_cancel_0 rfl rfl ?_
  refine k_iconst (pc1 := 2) dL_cancel_1 rfl ?_
  refine k_aload_n (pc1 := 3) dL_cancel_2 rfl rfl ?_
  refine k_iload_n (pc1 := 4) dL_cancel_3 rfl rfl ?_
  refine k_iload_n (pc1 := 5) dL_cancel_4 rfl rfl ?_
  refine k_callV dL_cancel_5 rfl lk_RL_45 o_X5_cancel (as := [.int (iI n), .int (iI x)]) rfl rfl (rp_P hC) rfl rfl (w_X5_cancel hl hC rn rx) (by decide) (by decide) (by decide) (by decide) (k8 rfl) (fun v h1 hv => ?_) (fun E h1 hv => ?_)
  · skip
    obtain ⟨t0, hv1, γ1, A1, hC1, hfr1⟩ := hv
    subst hv1
    obtain ⟨hO1, hO2⟩ := hfr1 ol _ hO hO0
    refine k_st (st' := [.int (iI ((Tcancel f n x).2.1)), .int (iI 0), .ref ol]) rfl ?_
    refine k_i2l (pc1 := 9) dL_cancel_8 rfl ?_
    refine k_last (i := 0) (pc1 := 10) dL_cancel_9 rfl hO1 (by decide) (by decide) (by decide) ?_
    obtain ⟨h2, eh2⟩ : ∃ z, z = kup h1 ol (klo1 G 1 (vp_updL F9 0 (Int32.toInt64 (iI ((Tcancel f n x).2.1))))) := ⟨_, rfl⟩
    refine k_hp (h' := h2) eh2.symm ?_
    have hT2 : h2 ol = some (klo1 G 1 (vp_updL F9 0 (Int32.toInt64 (iI ((Tcancel f n x).2.1))))) := by rw [eh2]; exact kup_same _ _ _
    have hG2 : ∀ b, b ≠ ol → h2 b = h1 b := fun b hb => by rw [eh2]; exact kup_ne hb
    clear eh2
    refine k_goto dL_cancel_10 (tgt := 25) rfl ?_
    refine k_iconst (pc1 := 26) dL_cancel_25 rfl ?_
    exact k_iret dL_cancel_26 rfl rfl ⟨by rw [t0], ⟨_, hT2, fun _ => rfl⟩, γ1, A1, rp_un hC1 (fun b e hb h0 => (hG2 b (fun y => h0 (by rw [y]; exact hO2))).trans hb) (fun b hb => by rw [← hG2 b (fun y => by rw [y, hT2] at hb; cases hb)]; exact hb), hO2, fun b e g1 g2 g3 => ⟨(hG2 b g3).trans (hfr1 b e g1 g2).1, (hfr1 b e g1 g2).2⟩⟩
  · skip
    obtain ⟨t0, tE, γ1, A1, hC1, hfr1⟩ := hv
    obtain ⟨hO1, hO2⟩ := hfr1 ol _ hO hO0
    have hco : kCo f (Tcancel f n x) := co_cancel n x
    have hz9 := (List.getElem?_eq_some_iff.mp tE).1
    change (Tcancel f n x).1.toNat < 4 at hz9
    have hz : (Tcancel f n x).1 = 1 ∨ (Tcancel f n x).1 = 2 ∨ (Tcancel f n x).1 = 3 := by have := hco.1; omega
    rcases hz with hz | hz | hz
    · skip
      rw [hz] at tE
      have eE : "java/util/NoSuchElementException" = E := Option.some.inj tE
      subst eE
      refine kx_catch (name := "java/util/NoSuchElementException") [] (0, 10, 13, 36) [(0, 10, 17, 49), (0, 10, 21, 29)] rfl (fun z9 hz9 => nomatch hz9) (by decide) (by decide) (by decide) cl_RL_36 (by decide) (fun qx => ?_)
      refine k_astore (pc1 := 15) dL_cancel_13 rfl (by decide) (k_loc (L' := [some (.ref pl), some (.int (iI n)), some (.int (iI x)), some (.ref ol), some (.ref qx)]) rfl ?_)
      refine k_iconst (pc1 := 16) dL_cancel_15 rfl ?_
      exact k_iret dL_cancel_16 rfl rfl ⟨by rw [hz], ⟨F9, hO1, fun y => absurd y (by omega)⟩, γ1, A1, hC1, hO2, fun b e g1 g2 _ => hfr1 b e g1 g2⟩
    · skip
      rw [hz] at tE
      have eE : "java/lang/IndexOutOfBoundsException" = E := Option.some.inj tE
      subst eE
      refine kx_catch (name := "java/lang/IndexOutOfBoundsException") [(0, 10, 13, 36)] (0, 10, 17, 49) [(0, 10, 21, 29)] rfl (List.forall_mem_cons.mpr ⟨⟨by decide, _, cl_RL_36, by decide⟩, (fun z9 hz9 => nomatch hz9)⟩) (by decide) (by decide) (by decide) cl_RL_49 (by decide) (fun qx => ?_)
      refine k_astore (pc1 := 19) dL_cancel_17 rfl (by decide) (k_loc (L' := [some (.ref pl), some (.int (iI n)), some (.int (iI x)), some (.ref ol), some (.ref qx)]) rfl ?_)
      refine k_iconst (pc1 := 20) dL_cancel_19 rfl ?_
      exact k_iret dL_cancel_20 rfl rfl ⟨by rw [hz], ⟨F9, hO1, fun y => absurd y (by omega)⟩, γ1, A1, hC1, hO2, fun b e g1 g2 _ => hfr1 b e g1 g2⟩
    · skip
      rw [hz] at tE
      have eE : "java/lang/IllegalStateException" = E := Option.some.inj tE
      subst eE
      refine kx_catch (name := "java/lang/IllegalStateException") [(0, 10, 13, 36), (0, 10, 17, 49)] (0, 10, 21, 29) [] rfl (List.forall_mem_cons.mpr ⟨⟨by decide, _, cl_RL_36, by decide⟩, (List.forall_mem_cons.mpr ⟨⟨by decide, _, cl_RL_49, by decide⟩, (fun z9 hz9 => nomatch hz9)⟩)⟩) (by decide) (by decide) (by decide) cl_RL_29 (by decide) (fun qx => ?_)
      refine k_astore (pc1 := 23) dL_cancel_21 rfl (by decide) (k_loc (L' := [some (.ref pl), some (.int (iI n)), some (.int (iI x)), some (.ref ol), some (.ref qx)]) rfl ?_)
      refine k_iconst (pc1 := 24) dL_cancel_23 rfl ?_
      exact k_iret dL_cancel_24 rfl rfl ⟨by rw [hz], ⟨F9, hO1, fun y => absurd y (by omega)⟩, γ1, A1, hC1, hO2, fun b e g1 g2 _ => hfr1 b e g1 g2⟩
theorem w_L_move {l : Launch} {G : kG} {h : kAH} (hl : l.stackTraces = false) {pl : Nat} {γ : kGh} {A : kAb} {f : Nat → Int} (hC : kRp G h pl γ A f) {n x k t : Int} (rn : -2147483648 ≤ n ∧ n < 2147483648) (rx : -2147483648 ≤ x ∧ x < 2147483648) (rk : -2147483648 ≤ k ∧ k < 2147483648) (rt : -2147483648 ≤ t ∧ t < 2147483648) {ol : Nat} {F9 : Nat → Int64} (hO : h ol = some (klo1 G 1 F9)) (hO0 : gOw γ ol = (0, 0)) : kC l G m_L_move 10 3 220 [.ref pl, .int (iI n), .int (iI x), .int (iI k), .int (iI t), .ref ol] h (kLw G pl ol γ h (Tmove f n x k t) (Int32.toInt64 (iI (Tmove f n x k t).2.1))) kNo := by
  refine kC_ofH hl rfl rfl (Nat.le_of_ble_eq_true rfl) (L := [some (.ref pl), some (.int (iI n)), some (.int (iI x)), some (.int (iI k)), some (.int (iI t)), some (.ref ol), none]) rfl ?_
  refine k_aload (pc1 := 2) dL_move_0 rfl rfl ?_
  refine k_iconst (pc1 := 3) dL_move_2 rfl ?_
  refine k_aload_n (pc1 := 4) dL_move_3 rfl rfl ?_
  refine k_iload_n (pc1 := 5) dL_move_4 rfl rfl ?_
  refine k_iload_n (pc1 := 6) dL_move_5 rfl rfl ?_
  refine k_iload_n (pc1 := 7) dL_move_6 rfl rfl ?_
  refine k_iload (pc1 := 9) dL_move_7 rfl rfl ?_
  refine k_callV dL_move_9 rfl lk_RL_51 o_X5_move (as := [.int (iI n), .int (iI x), .int (iI k), .int (iI t)]) rfl rfl (rp_P hC) rfl rfl (w_X5_move hl hC rn rx rk rt) (by decide) (by decide) (by decide) (by decide) (k8 rfl) (fun v h1 hv => ?_) (fun E h1 hv => ?_)
  · skip
    obtain ⟨t0, hv1, γ1, A1, hC1, hfr1⟩ := hv
    subst hv1
    obtain ⟨hO1, hO2⟩ := hfr1 ol _ hO hO0
    refine k_st (st' := [.int (iI ((Tmove f n x k t).2.1)), .int (iI 0), .ref ol]) rfl ?_
    refine k_i2l (pc1 := 13) dL_move_12 rfl ?_
    refine k_last (i := 0) (pc1 := 14) dL_move_13 rfl hO1 (by decide) (by decide) (by decide) ?_
    obtain ⟨h2, eh2⟩ : ∃ z, z = kup h1 ol (klo1 G 1 (vp_updL F9 0 (Int32.toInt64 (iI ((Tmove f n x k t).2.1))))) := ⟨_, rfl⟩
    refine k_hp (h' := h2) eh2.symm ?_
    have hT2 : h2 ol = some (klo1 G 1 (vp_updL F9 0 (Int32.toInt64 (iI ((Tmove f n x k t).2.1))))) := by rw [eh2]; exact kup_same _ _ _
    have hG2 : ∀ b, b ≠ ol → h2 b = h1 b := fun b hb => by rw [eh2]; exact kup_ne hb
    clear eh2
    refine k_goto dL_move_14 (tgt := 33) rfl ?_
    refine k_iconst (pc1 := 34) dL_move_33 rfl ?_
    exact k_iret dL_move_34 rfl rfl ⟨by rw [t0], ⟨_, hT2, fun _ => rfl⟩, γ1, A1, rp_un hC1 (fun b e hb h0 => (hG2 b (fun y => h0 (by rw [y]; exact hO2))).trans hb) (fun b hb => by rw [← hG2 b (fun y => by rw [y, hT2] at hb; cases hb)]; exact hb), hO2, fun b e g1 g2 g3 => ⟨(hG2 b g3).trans (hfr1 b e g1 g2).1, (hfr1 b e g1 g2).2⟩⟩
  · skip
    obtain ⟨t0, tE, γ1, A1, hC1, hfr1⟩ := hv
    obtain ⟨hO1, hO2⟩ := hfr1 ol _ hO hO0
    have hco : kCo f (Tmove f n x k t) := co_move n x k t
    have hz9 := (List.getElem?_eq_some_iff.mp tE).1
    change (Tmove f n x k t).1.toNat < 5 at hz9
    have hz : (Tmove f n x k t).1 = 1 ∨ (Tmove f n x k t).1 = 2 ∨ (Tmove f n x k t).1 = 3 ∨ (Tmove f n x k t).1 = 4 := by have := hco.1; omega
    rcases hz with hz | hz | hz | hz
    · skip
      rw [hz] at tE
      have eE : "java/util/NoSuchElementException" = E := Option.some.inj tE
      subst eE
      refine kx_catch (name := "java/util/NoSuchElementException") [] (0, 14, 17, 36) [(0, 14, 21, 49), (0, 14, 25, 13), (0, 14, 29, 31)] rfl (fun z9 hz9 => nomatch hz9) (by decide) (by decide) (by decide) cl_RL_36 (by decide) (fun qx => ?_)
      refine k_astore (pc1 := 19) dL_move_17 rfl (by decide) (k_loc (L' := [some (.ref pl), some (.int (iI n)), some (.int (iI x)), some (.int (iI k)), some (.int (iI t)), some (.ref ol), some (.ref qx)]) rfl ?_)
      refine k_iconst (pc1 := 20) dL_move_19 rfl ?_
      exact k_iret dL_move_20 rfl rfl ⟨by rw [hz], ⟨F9, hO1, fun y => absurd y (by omega)⟩, γ1, A1, hC1, hO2, fun b e g1 g2 _ => hfr1 b e g1 g2⟩
    · skip
      rw [hz] at tE
      have eE : "java/lang/IndexOutOfBoundsException" = E := Option.some.inj tE
      subst eE
      refine kx_catch (name := "java/lang/IndexOutOfBoundsException") [(0, 14, 17, 36)] (0, 14, 21, 49) [(0, 14, 25, 13), (0, 14, 29, 31)] rfl (List.forall_mem_cons.mpr ⟨⟨by decide, _, cl_RL_36, by decide⟩, (fun z9 hz9 => nomatch hz9)⟩) (by decide) (by decide) (by decide) cl_RL_49 (by decide) (fun qx => ?_)
      refine k_astore (pc1 := 23) dL_move_21 rfl (by decide) (k_loc (L' := [some (.ref pl), some (.int (iI n)), some (.int (iI x)), some (.int (iI k)), some (.int (iI t)), some (.ref ol), some (.ref qx)]) rfl ?_)
      refine k_iconst (pc1 := 24) dL_move_23 rfl ?_
      exact k_iret dL_move_24 rfl rfl ⟨by rw [hz], ⟨F9, hO1, fun y => absurd y (by omega)⟩, γ1, A1, hC1, hO2, fun b e g1 g2 _ => hfr1 b e g1 g2⟩
    · skip
      rw [hz] at tE
      have eE : "java/lang/IllegalArgumentException" = E := Option.some.inj tE
      subst eE
      refine kx_catch (name := "java/lang/IllegalArgumentException") [(0, 14, 17, 36), (0, 14, 21, 49)] (0, 14, 25, 13) [(0, 14, 29, 31)] rfl (List.forall_mem_cons.mpr ⟨⟨by decide, _, cl_RL_36, by decide⟩, (List.forall_mem_cons.mpr ⟨⟨by decide, _, cl_RL_49, by decide⟩, (fun z9 hz9 => nomatch hz9)⟩)⟩) (by decide) (by decide) (by decide) cl_RL_13 (by decide) (fun qx => ?_)
      refine k_astore (pc1 := 27) dL_move_25 rfl (by decide) (k_loc (L' := [some (.ref pl), some (.int (iI n)), some (.int (iI x)), some (.int (iI k)), some (.int (iI t)), some (.ref ol), some (.ref qx)]) rfl ?_)
      refine k_iconst (pc1 := 28) dL_move_27 rfl ?_
      exact k_iret dL_move_28 rfl rfl ⟨by rw [hz], ⟨F9, hO1, fun y => absurd y (by omega)⟩, γ1, A1, hC1, hO2, fun b e g1 g2 _ => hfr1 b e g1 g2⟩
    · skip
      rw [hz] at tE
      have eE : "java/lang/UnsupportedOperationException" = E := Option.some.inj tE
      subst eE
      refine kx_catch (name := "java/lang/UnsupportedOperationException") [(0, 14, 17, 36), (0, 14, 21, 49), (0, 14, 25, 13)] (0, 14, 29, 31) [] rfl (List.forall_mem_cons.mpr ⟨⟨by decide, _, cl_RL_36, by decide⟩, (List.forall_mem_cons.mpr ⟨⟨by decide, _, cl_RL_49, by decide⟩, (List.forall_mem_cons.mpr ⟨⟨by decide, _, cl_RL_13, by decide⟩, (fun z9 hz9 => nomatch hz9)⟩)⟩)⟩) (by decide) (by decide) (by decide) cl_RL_31 (by decide) (fun qx => ?_)
      refine k_astore (pc1 := 31) dL_move_29 rfl (by decide) (k_loc (L' := [some (.ref pl), some (.int (iI n)), some (.int (iI x)), some (.int (iI k)), some (.int (iI t)), some (.ref ol), some (.ref qx)]) rfl ?_)
      refine k_iconst (pc1 := 32) dL_move_31 rfl ?_
      exact k_iret dL_move_32 rfl rfl ⟨by rw [hz], ⟨F9, hO1, fun y => absurd y (by omega)⟩, γ1, A1, hC1, hO2, fun b e g1 g2 _ => hfr1 b e g1 g2⟩
theorem w_L_meetingAt {l : Launch} {G : kG} {h : kAH} (hl : l.stackTraces = false) {pl : Nat} {γ : kGh} {A : kAb} {f : Nat → Int} (hC : kRp G h pl γ A f) {a : Int} (ra : -2147483648 ≤ a ∧ a < 2147483648) {ol : Nat} {F9 : Nat → Int64} (hO : h ol = some (klo1 G 1 F9)) (hO0 : gOw γ ol = (0, 0)) : kC l G m_L_meetingAt 5 1 6 [.ref pl, .int (iI a), .ref ol] h (kLw G pl ol γ h (TmeetingAt f a) (Int32.toInt64 (iI (TmeetingAt f a).2.1))) kNo := by
  refine kC_ofH hl rfl rfl (Nat.le_of_ble_eq_true rfl) (L := [some (.ref pl), some (.int (iI a)), some (.ref ol), none]) rfl ?_
  refine k_aload_n (pc1 := 1) dL_meetingAt_0 rfl rfl ?_
  refine k_iconst (pc1 := 2) dL_meetingAt_1 rfl ?_
  refine k_aload_n (pc1 := 3) dL_meetingAt_2 rfl rfl ?_
  refine k_iload_n (pc1 := 4) dL_meetingAt_3 rfl rfl ?_
  refine k_callV dL_meetingAt_4 rfl lk_RL_55 o_X5_meetingAt (as := [.int (iI a)]) rfl rfl (rp_P hC) rfl rfl (w_X5_meetingAt hl hC ra) (by decide) (by decide) (by decide) (by decide) (k8 rfl) (fun v h1 hv => ?_) (fun E h1 hv => ?_)
  · skip
    obtain ⟨t0, hv1, γ1, A1, hC1, hfr1⟩ := hv
    subst hv1
    obtain ⟨hO1, hO2⟩ := hfr1 ol _ hO hO0
    refine k_st (st' := [.int (iI ((TmeetingAt f a).2.1)), .int (iI 0), .ref ol]) rfl ?_
    refine k_i2l (pc1 := 8) dL_meetingAt_7 rfl ?_
    refine k_last (i := 0) (pc1 := 9) dL_meetingAt_8 rfl hO1 (by decide) (by decide) (by decide) ?_
    obtain ⟨h2, eh2⟩ : ∃ z, z = kup h1 ol (klo1 G 1 (vp_updL F9 0 (Int32.toInt64 (iI ((TmeetingAt f a).2.1))))) := ⟨_, rfl⟩
    refine k_hp (h' := h2) eh2.symm ?_
    have hT2 : h2 ol = some (klo1 G 1 (vp_updL F9 0 (Int32.toInt64 (iI ((TmeetingAt f a).2.1))))) := by rw [eh2]; exact kup_same _ _ _
    have hG2 : ∀ b, b ≠ ol → h2 b = h1 b := fun b hb => by rw [eh2]; exact kup_ne hb
    clear eh2
    refine k_goto dL_meetingAt_9 (tgt := 15) rfl ?_
    refine k_iconst (pc1 := 16) dL_meetingAt_15 rfl ?_
    exact k_iret dL_meetingAt_16 rfl rfl ⟨by rw [t0], ⟨_, hT2, fun _ => rfl⟩, γ1, A1, rp_un hC1 (fun b e hb h0 => (hG2 b (fun y => h0 (by rw [y]; exact hO2))).trans hb) (fun b hb => by rw [← hG2 b (fun y => by rw [y, hT2] at hb; cases hb)]; exact hb), hO2, fun b e g1 g2 g3 => ⟨(hG2 b g3).trans (hfr1 b e g1 g2).1, (hfr1 b e g1 g2).2⟩⟩
  · skip
    obtain ⟨t0, tE, γ1, A1, hC1, hfr1⟩ := hv
    obtain ⟨hO1, hO2⟩ := hfr1 ol _ hO hO0
    have hco : kCo f (TmeetingAt f a) := co_meetingAt a
    have hz9 := (List.getElem?_eq_some_iff.mp tE).1
    change (TmeetingAt f a).1.toNat < 2 at hz9
    have hz : (TmeetingAt f a).1 = 1 := by have := hco.1; omega
    rw [hz] at tE
    have eE : "java/util/NoSuchElementException" = E := Option.some.inj tE
    subst eE
    refine kx_catch (name := "java/util/NoSuchElementException") [] (0, 9, 12, 36) [] rfl (fun z9 hz9 => nomatch hz9) (by decide) (by decide) (by decide) cl_RL_36 (by decide) (fun qx => ?_)
    refine k_astore_n (pc1 := 13) dL_meetingAt_12 rfl (by decide) (k_loc (L' := [some (.ref pl), some (.int (iI a)), some (.ref ol), some (.ref qx)]) rfl ?_)
    refine k_iconst (pc1 := 14) dL_meetingAt_13 rfl ?_
    exact k_iret dL_meetingAt_14 rfl rfl ⟨by rw [hz], ⟨F9, hO1, fun y => absurd y (by omega)⟩, γ1, A1, hC1, hO2, fun b e g1 g2 _ => hfr1 b e g1 g2⟩
theorem w_L_hostOf {l : Launch} {G : kG} {h : kAH} (hl : l.stackTraces = false) {pl : Nat} {γ : kGh} {A : kAb} {f : Nat → Int} (hC : kRp G h pl γ A f) {n : Int} (rn : -2147483648 ≤ n ∧ n < 2147483648) {ol : Nat} {F9 : Nat → Int64} (hO : h ol = some (klo1 G 1 F9)) (hO0 : gOw γ ol = (0, 0)) : kC l G m_L_hostOf 7 1 6 [.ref pl, .int (iI n), .ref ol] h (kLw G pl ol γ h (ThostOf f n) (Int32.toInt64 (iI (ThostOf f n).2.1))) kNo := by
  refine kC_ofH hl rfl rfl (Nat.le_of_ble_eq_true rfl) (L := [some (.ref pl), some (.int (iI n)), some (.ref ol), none]) rfl ?_
  refine k_aload_n (pc1 := 1) dL_hostOf_0 rfl rfl ?_
  refine k_iconst (pc1 := 2) dL_hostOf_1 rfl ?_
  refine k_aload_n (pc1 := 3) dL_hostOf_2 rfl rfl ?_
  refine k_iload_n (pc1 := 4) dL_hostOf_3 rfl rfl ?_
  refine k_callV dL_hostOf_4 rfl lk_RL_58 o_X5_hostOf (as := [.int (iI n)]) rfl rfl (rp_P hC) rfl rfl (w_X5_hostOf hl hC rn) (by decide) (by decide) (by decide) (by decide) (k8 rfl) (fun v h1 hv => ?_) (fun E h1 hv => ?_)
  · skip
    obtain ⟨t0, hv1, γ1, A1, hC1, hfr1⟩ := hv
    subst hv1
    obtain ⟨hO1, hO2⟩ := hfr1 ol _ hO hO0
    refine k_st (st' := [.int (iI ((ThostOf f n).2.1)), .int (iI 0), .ref ol]) rfl ?_
    refine k_i2l (pc1 := 8) dL_hostOf_7 rfl ?_
    refine k_last (i := 0) (pc1 := 9) dL_hostOf_8 rfl hO1 (by decide) (by decide) (by decide) ?_
    obtain ⟨h2, eh2⟩ : ∃ z, z = kup h1 ol (klo1 G 1 (vp_updL F9 0 (Int32.toInt64 (iI ((ThostOf f n).2.1))))) := ⟨_, rfl⟩
    refine k_hp (h' := h2) eh2.symm ?_
    have hT2 : h2 ol = some (klo1 G 1 (vp_updL F9 0 (Int32.toInt64 (iI ((ThostOf f n).2.1))))) := by rw [eh2]; exact kup_same _ _ _
    have hG2 : ∀ b, b ≠ ol → h2 b = h1 b := fun b hb => by rw [eh2]; exact kup_ne hb
    clear eh2
    refine k_goto dL_hostOf_9 (tgt := 15) rfl ?_
    refine k_iconst (pc1 := 16) dL_hostOf_15 rfl ?_
    exact k_iret dL_hostOf_16 rfl rfl ⟨by rw [t0], ⟨_, hT2, fun _ => rfl⟩, γ1, A1, rp_un hC1 (fun b e hb h0 => (hG2 b (fun y => h0 (by rw [y]; exact hO2))).trans hb) (fun b hb => by rw [← hG2 b (fun y => by rw [y, hT2] at hb; cases hb)]; exact hb), hO2, fun b e g1 g2 g3 => ⟨(hG2 b g3).trans (hfr1 b e g1 g2).1, (hfr1 b e g1 g2).2⟩⟩
  · skip
    obtain ⟨t0, tE, γ1, A1, hC1, hfr1⟩ := hv
    obtain ⟨hO1, hO2⟩ := hfr1 ol _ hO hO0
    have hco : kCo f (ThostOf f n) := co_hostOf n
    have hz9 := (List.getElem?_eq_some_iff.mp tE).1
    change (ThostOf f n).1.toNat < 2 at hz9
    have hz : (ThostOf f n).1 = 1 := by have := hco.1; omega
    rw [hz] at tE
    have eE : "java/util/NoSuchElementException" = E := Option.some.inj tE
    subst eE
    refine kx_catch (name := "java/util/NoSuchElementException") [] (0, 9, 12, 36) [] rfl (fun z9 hz9 => nomatch hz9) (by decide) (by decide) (by decide) cl_RL_36 (by decide) (fun qx => ?_)
    refine k_astore_n (pc1 := 13) dL_hostOf_12 rfl (by decide) (k_loc (L' := [some (.ref pl), some (.int (iI n)), some (.ref ol), some (.ref qx)]) rfl ?_)
    refine k_iconst (pc1 := 14) dL_hostOf_13 rfl ?_
    exact k_iret dL_hostOf_14 rfl rfl ⟨by rw [hz], ⟨F9, hO1, fun y => absurd y (by omega)⟩, γ1, A1, hC1, hO2, fun b e g1 g2 _ => hfr1 b e g1 g2⟩
theorem w_L_answerOf {l : Launch} {G : kG} {h : kAH} (hl : l.stackTraces = false) {pl : Nat} {γ : kGh} {A : kAb} {f : Nat → Int} (hC : kRp G h pl γ A f) {n p : Int} (rn : -2147483648 ≤ n ∧ n < 2147483648) (rp : -2147483648 ≤ p ∧ p < 2147483648) {ol : Nat} {F9 : Nat → Int64} (hO : h ol = some (klo1 G 1 F9)) (hO0 : gOw γ ol = (0, 0)) : kC l G m_L_answerOf 7 1 6 [.ref pl, .int (iI n), .int (iI p), .ref ol] h (kLw G pl ol γ h (TanswerOf f n p) (Int32.toInt64 (iI (TanswerOf f n p).2.1))) kNo := by
  refine kC_ofH hl rfl rfl (Nat.le_of_ble_eq_true rfl) (L := [some (.ref pl), some (.int (iI n)), some (.int (iI p)), some (.ref ol), none]) rfl ?_
  refine k_aload_n (pc1 := 1) dL_answerOf_0 rfl rfl ?_
  refine k_iconst (pc1 := 2) dL_answerOf_1 rfl ?_
  refine k_aload_n (pc1 := 3) dL_answerOf_2 rfl rfl ?_
  refine k_iload_n (pc1 := 4) dL_answerOf_3 rfl rfl ?_
  refine k_iload_n (pc1 := 5) dL_answerOf_4 rfl rfl ?_
  refine k_callV dL_answerOf_5 rfl lk_RL_61 o_X5_answerOf (as := [.int (iI n), .int (iI p)]) rfl rfl (rp_P hC) rfl rfl (w_X5_answerOf hl hC rn rp) (by decide) (by decide) (by decide) (by decide) (k8 rfl) (fun v h1 hv => ?_) (fun E h1 hv => ?_)
  · skip
    obtain ⟨t0, hv1, γ1, A1, hC1, hfr1⟩ := hv
    subst hv1
    obtain ⟨hO1, hO2⟩ := hfr1 ol _ hO hO0
    refine k_st (st' := [.int (iI ((TanswerOf f n p).2.1)), .int (iI 0), .ref ol]) rfl ?_
    refine k_i2l (pc1 := 9) dL_answerOf_8 rfl ?_
    refine k_last (i := 0) (pc1 := 10) dL_answerOf_9 rfl hO1 (by decide) (by decide) (by decide) ?_
    obtain ⟨h2, eh2⟩ : ∃ z, z = kup h1 ol (klo1 G 1 (vp_updL F9 0 (Int32.toInt64 (iI ((TanswerOf f n p).2.1))))) := ⟨_, rfl⟩
    refine k_hp (h' := h2) eh2.symm ?_
    have hT2 : h2 ol = some (klo1 G 1 (vp_updL F9 0 (Int32.toInt64 (iI ((TanswerOf f n p).2.1))))) := by rw [eh2]; exact kup_same _ _ _
    have hG2 : ∀ b, b ≠ ol → h2 b = h1 b := fun b hb => by rw [eh2]; exact kup_ne hb
    clear eh2
    refine k_goto dL_answerOf_10 (tgt := 21) rfl ?_
    refine k_iconst (pc1 := 22) dL_answerOf_21 rfl ?_
    exact k_iret dL_answerOf_22 rfl rfl ⟨by rw [t0], ⟨_, hT2, fun _ => rfl⟩, γ1, A1, rp_un hC1 (fun b e hb h0 => (hG2 b (fun y => h0 (by rw [y]; exact hO2))).trans hb) (fun b hb => by rw [← hG2 b (fun y => by rw [y, hT2] at hb; cases hb)]; exact hb), hO2, fun b e g1 g2 g3 => ⟨(hG2 b g3).trans (hfr1 b e g1 g2).1, (hfr1 b e g1 g2).2⟩⟩
  · skip
    obtain ⟨t0, tE, γ1, A1, hC1, hfr1⟩ := hv
    obtain ⟨hO1, hO2⟩ := hfr1 ol _ hO hO0
    have hco : kCo f (TanswerOf f n p) := co_answerOf n p
    have hz9 := (List.getElem?_eq_some_iff.mp tE).1
    change (TanswerOf f n p).1.toNat < 3 at hz9
    have hz : (TanswerOf f n p).1 = 1 ∨ (TanswerOf f n p).1 = 2 := by have := hco.1; omega
    rcases hz with hz | hz
    · skip
      rw [hz] at tE
      have eE : "java/util/NoSuchElementException" = E := Option.some.inj tE
      subst eE
      refine kx_catch (name := "java/util/NoSuchElementException") [] (0, 10, 13, 36) [(0, 10, 17, 13)] rfl (fun z9 hz9 => nomatch hz9) (by decide) (by decide) (by decide) cl_RL_36 (by decide) (fun qx => ?_)
      refine k_astore (pc1 := 15) dL_answerOf_13 rfl (by decide) (k_loc (L' := [some (.ref pl), some (.int (iI n)), some (.int (iI p)), some (.ref ol), some (.ref qx)]) rfl ?_)
      refine k_iconst (pc1 := 16) dL_answerOf_15 rfl ?_
      exact k_iret dL_answerOf_16 rfl rfl ⟨by rw [hz], ⟨F9, hO1, fun y => absurd y (by omega)⟩, γ1, A1, hC1, hO2, fun b e g1 g2 _ => hfr1 b e g1 g2⟩
    · skip
      rw [hz] at tE
      have eE : "java/lang/IllegalArgumentException" = E := Option.some.inj tE
      subst eE
      refine kx_catch (name := "java/lang/IllegalArgumentException") [(0, 10, 13, 36)] (0, 10, 17, 13) [] rfl (List.forall_mem_cons.mpr ⟨⟨by decide, _, cl_RL_36, by decide⟩, (fun z9 hz9 => nomatch hz9)⟩) (by decide) (by decide) (by decide) cl_RL_13 (by decide) (fun qx => ?_)
      refine k_astore (pc1 := 19) dL_answerOf_17 rfl (by decide) (k_loc (L' := [some (.ref pl), some (.int (iI n)), some (.int (iI p)), some (.ref ol), some (.ref qx)]) rfl ?_)
      refine k_iconst (pc1 := 20) dL_answerOf_19 rfl ?_
      exact k_iret dL_answerOf_20 rfl rfl ⟨by rw [hz], ⟨F9, hO1, fun y => absurd y (by omega)⟩, γ1, A1, hC1, hO2, fun b e g1 g2 _ => hfr1 b e g1 g2⟩
theorem w_L_expected {l : Launch} {G : kG} {h : kAH} (hl : l.stackTraces = false) {pl : Nat} {γ : kGh} {A : kAb} {f : Nat → Int} (hC : kRp G h pl γ A f) {n : Int} (rn : -2147483648 ≤ n ∧ n < 2147483648) {ol : Nat} {F9 : Nat → Int64} (hO : h ol = some (klo1 G 1 F9)) (hO0 : gOw γ ol = (0, 0)) : kC l G m_L_expected 7 1 6 [.ref pl, .int (iI n), .ref ol] h (kLw G pl ol γ h (Texpected f n) (Int32.toInt64 (iI (Texpected f n).2.1))) kNo := by
  refine kC_ofH hl rfl rfl (Nat.le_of_ble_eq_true rfl) (L := [some (.ref pl), some (.int (iI n)), some (.ref ol), none]) rfl ?_
  refine k_aload_n (pc1 := 1) dL_expected_0 rfl rfl ?_
  refine k_iconst (pc1 := 2) dL_expected_1 rfl ?_
  refine k_aload_n (pc1 := 3) dL_expected_2 rfl rfl ?_
  refine k_iload_n (pc1 := 4) dL_expected_3 rfl rfl ?_
  refine k_callV dL_expected_4 rfl lk_RL_65 o_X5_expected (as := [.int (iI n)]) rfl rfl (rp_P hC) rfl rfl (w_X5_expected hl hC rn) (by decide) (by decide) (by decide) (by decide) (k8 rfl) (fun v h1 hv => ?_) (fun E h1 hv => ?_)
  · skip
    obtain ⟨t0, hv1, γ1, A1, hC1, hfr1⟩ := hv
    subst hv1
    obtain ⟨hO1, hO2⟩ := hfr1 ol _ hO hO0
    refine k_st (st' := [.int (iI ((Texpected f n).2.1)), .int (iI 0), .ref ol]) rfl ?_
    refine k_i2l (pc1 := 8) dL_expected_7 rfl ?_
    refine k_last (i := 0) (pc1 := 9) dL_expected_8 rfl hO1 (by decide) (by decide) (by decide) ?_
    obtain ⟨h2, eh2⟩ : ∃ z, z = kup h1 ol (klo1 G 1 (vp_updL F9 0 (Int32.toInt64 (iI ((Texpected f n).2.1))))) := ⟨_, rfl⟩
    refine k_hp (h' := h2) eh2.symm ?_
    have hT2 : h2 ol = some (klo1 G 1 (vp_updL F9 0 (Int32.toInt64 (iI ((Texpected f n).2.1))))) := by rw [eh2]; exact kup_same _ _ _
    have hG2 : ∀ b, b ≠ ol → h2 b = h1 b := fun b hb => by rw [eh2]; exact kup_ne hb
    clear eh2
    refine k_goto dL_expected_9 (tgt := 15) rfl ?_
    refine k_iconst (pc1 := 16) dL_expected_15 rfl ?_
    exact k_iret dL_expected_16 rfl rfl ⟨by rw [t0], ⟨_, hT2, fun _ => rfl⟩, γ1, A1, rp_un hC1 (fun b e hb h0 => (hG2 b (fun y => h0 (by rw [y]; exact hO2))).trans hb) (fun b hb => by rw [← hG2 b (fun y => by rw [y, hT2] at hb; cases hb)]; exact hb), hO2, fun b e g1 g2 g3 => ⟨(hG2 b g3).trans (hfr1 b e g1 g2).1, (hfr1 b e g1 g2).2⟩⟩
  · skip
    obtain ⟨t0, tE, γ1, A1, hC1, hfr1⟩ := hv
    obtain ⟨hO1, hO2⟩ := hfr1 ol _ hO hO0
    have hco : kCo f (Texpected f n) := co_expected n
    have hz9 := (List.getElem?_eq_some_iff.mp tE).1
    change (Texpected f n).1.toNat < 2 at hz9
    have hz : (Texpected f n).1 = 1 := by have := hco.1; omega
    rw [hz] at tE
    have eE : "java/util/NoSuchElementException" = E := Option.some.inj tE
    subst eE
    refine kx_catch (name := "java/util/NoSuchElementException") [] (0, 9, 12, 36) [] rfl (fun z9 hz9 => nomatch hz9) (by decide) (by decide) (by decide) cl_RL_36 (by decide) (fun qx => ?_)
    refine k_astore_n (pc1 := 13) dL_expected_12 rfl (by decide) (k_loc (L' := [some (.ref pl), some (.int (iI n)), some (.ref ol), some (.ref qx)]) rfl ?_)
    refine k_iconst (pc1 := 14) dL_expected_13 rfl ?_
    exact k_iret dL_expected_14 rfl rfl ⟨by rw [hz], ⟨F9, hO1, fun y => absurd y (by omega)⟩, γ1, A1, hC1, hO2, fun b e g1 g2 _ => hfr1 b e g1 g2⟩
theorem w_L_dateCount {l : Launch} {G : kG} {h : kAH} (hl : l.stackTraces = false) {pl : Nat} {γ : kGh} {A : kAb} {f : Nat → Int} (hC : kRp G h pl γ A f) {n : Int} (rn : -2147483648 ≤ n ∧ n < 2147483648) {ol : Nat} {F9 : Nat → Int64} (hO : h ol = some (klo1 G 1 F9)) (hO0 : gOw γ ol = (0, 0)) : kC l G m_L_dateCount 7 1 6 [.ref pl, .int (iI n), .ref ol] h (kLw G pl ol γ h (TdateCount f n) (Int32.toInt64 (iI (TdateCount f n).2.1))) kNo := by
  refine kC_ofH hl rfl rfl (Nat.le_of_ble_eq_true rfl) (L := [some (.ref pl), some (.int (iI n)), some (.ref ol), none]) rfl ?_
  refine k_aload_n (pc1 := 1) dL_dateCount_0 rfl rfl ?_
  refine k_iconst (pc1 := 2) dL_dateCount_1 rfl ?_
  refine k_aload_n (pc1 := 3) dL_dateCount_2 rfl rfl ?_
  refine k_iload_n (pc1 := 4) dL_dateCount_3 rfl rfl ?_
  refine k_callV dL_dateCount_4 rfl lk_RL_68 o_X5_dateCount (as := [.int (iI n)]) rfl rfl (rp_P hC) rfl rfl (w_X5_dateCount hl hC rn) (by decide) (by decide) (by decide) (by decide) (k8 rfl) (fun v h1 hv => ?_) (fun E h1 hv => ?_)
  · skip
    obtain ⟨t0, hv1, γ1, A1, hC1, hfr1⟩ := hv
    subst hv1
    obtain ⟨hO1, hO2⟩ := hfr1 ol _ hO hO0
    refine k_st (st' := [.int (iI ((TdateCount f n).2.1)), .int (iI 0), .ref ol]) rfl ?_
    refine k_i2l (pc1 := 8) dL_dateCount_7 rfl ?_
    refine k_last (i := 0) (pc1 := 9) dL_dateCount_8 rfl hO1 (by decide) (by decide) (by decide) ?_
    obtain ⟨h2, eh2⟩ : ∃ z, z = kup h1 ol (klo1 G 1 (vp_updL F9 0 (Int32.toInt64 (iI ((TdateCount f n).2.1))))) := ⟨_, rfl⟩
    refine k_hp (h' := h2) eh2.symm ?_
    have hT2 : h2 ol = some (klo1 G 1 (vp_updL F9 0 (Int32.toInt64 (iI ((TdateCount f n).2.1))))) := by rw [eh2]; exact kup_same _ _ _
    have hG2 : ∀ b, b ≠ ol → h2 b = h1 b := fun b hb => by rw [eh2]; exact kup_ne hb
    clear eh2
    refine k_goto dL_dateCount_9 (tgt := 15) rfl ?_
    refine k_iconst (pc1 := 16) dL_dateCount_15 rfl ?_
    exact k_iret dL_dateCount_16 rfl rfl ⟨by rw [t0], ⟨_, hT2, fun _ => rfl⟩, γ1, A1, rp_un hC1 (fun b e hb h0 => (hG2 b (fun y => h0 (by rw [y]; exact hO2))).trans hb) (fun b hb => by rw [← hG2 b (fun y => by rw [y, hT2] at hb; cases hb)]; exact hb), hO2, fun b e g1 g2 g3 => ⟨(hG2 b g3).trans (hfr1 b e g1 g2).1, (hfr1 b e g1 g2).2⟩⟩
  · skip
    obtain ⟨t0, tE, γ1, A1, hC1, hfr1⟩ := hv
    obtain ⟨hO1, hO2⟩ := hfr1 ol _ hO hO0
    have hco : kCo f (TdateCount f n) := co_dateCount n
    have hz9 := (List.getElem?_eq_some_iff.mp tE).1
    change (TdateCount f n).1.toNat < 2 at hz9
    have hz : (TdateCount f n).1 = 1 := by have := hco.1; omega
    rw [hz] at tE
    have eE : "java/util/NoSuchElementException" = E := Option.some.inj tE
    subst eE
    refine kx_catch (name := "java/util/NoSuchElementException") [] (0, 9, 12, 36) [] rfl (fun z9 hz9 => nomatch hz9) (by decide) (by decide) (by decide) cl_RL_36 (by decide) (fun qx => ?_)
    refine k_astore_n (pc1 := 13) dL_dateCount_12 rfl (by decide) (k_loc (L' := [some (.ref pl), some (.int (iI n)), some (.ref ol), some (.ref qx)]) rfl ?_)
    refine k_iconst (pc1 := 14) dL_dateCount_13 rfl ?_
    exact k_iret dL_dateCount_14 rfl rfl ⟨by rw [hz], ⟨F9, hO1, fun y => absurd y (by omega)⟩, γ1, A1, hC1, hO2, fun b e g1 g2 _ => hfr1 b e g1 g2⟩
theorem w_L_dayOf {l : Launch} {G : kG} {h : kAH} (hl : l.stackTraces = false) {pl : Nat} {γ : kGh} {A : kAb} {f : Nat → Int} (hC : kRp G h pl γ A f) {n x : Int} (rn : -2147483648 ≤ n ∧ n < 2147483648) (rx : -2147483648 ≤ x ∧ x < 2147483648) {ol : Nat} {F9 : Nat → Int64} (hO : h ol = some (klo1 G 1 F9)) (hO0 : gOw γ ol = (0, 0)) : kC l G m_L_dayOf 7 1 6 [.ref pl, .int (iI n), .int (iI x), .ref ol] h (kLw G pl ol γ h (TdayOf f n x) (Int32.toInt64 (iI (TdayOf f n x).2.1))) kNo := by
  refine kC_ofH hl rfl rfl (Nat.le_of_ble_eq_true rfl) (L := [some (.ref pl), some (.int (iI n)), some (.int (iI x)), some (.ref ol), none]) rfl ?_
  refine k_aload_n (pc1 := 1) dL_dayOf_0 rfl rfl ?_
  refine k_iconst (pc1 := 2) dL_dayOf_1 rfl ?_
  refine k_aload_n (pc1 := 3) dL_dayOf_2 rfl rfl ?_
  refine k_iload_n (pc1 := 4) dL_dayOf_3 rfl rfl ?_
  refine k_iload_n (pc1 := 5) dL_dayOf_4 rfl rfl ?_
  refine k_callV dL_dayOf_5 rfl lk_RL_71 o_X5_dayOf (as := [.int (iI n), .int (iI x)]) rfl rfl (rp_P hC) rfl rfl (w_X5_dayOf hl hC rn rx) (by decide) (by decide) (by decide) (by decide) (k8 rfl) (fun v h1 hv => ?_) (fun E h1 hv => ?_)
  · skip
    obtain ⟨t0, hv1, γ1, A1, hC1, hfr1⟩ := hv
    subst hv1
    obtain ⟨hO1, hO2⟩ := hfr1 ol _ hO hO0
    refine k_st (st' := [.int (iI ((TdayOf f n x).2.1)), .int (iI 0), .ref ol]) rfl ?_
    refine k_i2l (pc1 := 9) dL_dayOf_8 rfl ?_
    refine k_last (i := 0) (pc1 := 10) dL_dayOf_9 rfl hO1 (by decide) (by decide) (by decide) ?_
    obtain ⟨h2, eh2⟩ : ∃ z, z = kup h1 ol (klo1 G 1 (vp_updL F9 0 (Int32.toInt64 (iI ((TdayOf f n x).2.1))))) := ⟨_, rfl⟩
    refine k_hp (h' := h2) eh2.symm ?_
    have hT2 : h2 ol = some (klo1 G 1 (vp_updL F9 0 (Int32.toInt64 (iI ((TdayOf f n x).2.1))))) := by rw [eh2]; exact kup_same _ _ _
    have hG2 : ∀ b, b ≠ ol → h2 b = h1 b := fun b hb => by rw [eh2]; exact kup_ne hb
    clear eh2
    refine k_goto dL_dayOf_10 (tgt := 21) rfl ?_
    refine k_iconst (pc1 := 22) dL_dayOf_21 rfl ?_
    exact k_iret dL_dayOf_22 rfl rfl ⟨by rw [t0], ⟨_, hT2, fun _ => rfl⟩, γ1, A1, rp_un hC1 (fun b e hb h0 => (hG2 b (fun y => h0 (by rw [y]; exact hO2))).trans hb) (fun b hb => by rw [← hG2 b (fun y => by rw [y, hT2] at hb; cases hb)]; exact hb), hO2, fun b e g1 g2 g3 => ⟨(hG2 b g3).trans (hfr1 b e g1 g2).1, (hfr1 b e g1 g2).2⟩⟩
  · skip
    obtain ⟨t0, tE, γ1, A1, hC1, hfr1⟩ := hv
    obtain ⟨hO1, hO2⟩ := hfr1 ol _ hO hO0
    have hco : kCo f (TdayOf f n x) := co_dayOf n x
    have hz9 := (List.getElem?_eq_some_iff.mp tE).1
    change (TdayOf f n x).1.toNat < 3 at hz9
    have hz : (TdayOf f n x).1 = 1 ∨ (TdayOf f n x).1 = 2 := by have := hco.1; omega
    rcases hz with hz | hz
    · skip
      rw [hz] at tE
      have eE : "java/util/NoSuchElementException" = E := Option.some.inj tE
      subst eE
      refine kx_catch (name := "java/util/NoSuchElementException") [] (0, 10, 13, 36) [(0, 10, 17, 49)] rfl (fun z9 hz9 => nomatch hz9) (by decide) (by decide) (by decide) cl_RL_36 (by decide) (fun qx => ?_)
      refine k_astore (pc1 := 15) dL_dayOf_13 rfl (by decide) (k_loc (L' := [some (.ref pl), some (.int (iI n)), some (.int (iI x)), some (.ref ol), some (.ref qx)]) rfl ?_)
      refine k_iconst (pc1 := 16) dL_dayOf_15 rfl ?_
      exact k_iret dL_dayOf_16 rfl rfl ⟨by rw [hz], ⟨F9, hO1, fun y => absurd y (by omega)⟩, γ1, A1, hC1, hO2, fun b e g1 g2 _ => hfr1 b e g1 g2⟩
    · skip
      rw [hz] at tE
      have eE : "java/lang/IndexOutOfBoundsException" = E := Option.some.inj tE
      subst eE
      refine kx_catch (name := "java/lang/IndexOutOfBoundsException") [(0, 10, 13, 36)] (0, 10, 17, 49) [] rfl (List.forall_mem_cons.mpr ⟨⟨by decide, _, cl_RL_36, by decide⟩, (fun z9 hz9 => nomatch hz9)⟩) (by decide) (by decide) (by decide) cl_RL_49 (by decide) (fun qx => ?_)
      refine k_astore (pc1 := 19) dL_dayOf_17 rfl (by decide) (k_loc (L' := [some (.ref pl), some (.int (iI n)), some (.int (iI x)), some (.ref ol), some (.ref qx)]) rfl ?_)
      refine k_iconst (pc1 := 20) dL_dayOf_19 rfl ?_
      exact k_iret dL_dayOf_20 rfl rfl ⟨by rw [hz], ⟨F9, hO1, fun y => absurd y (by omega)⟩, γ1, A1, hC1, hO2, fun b e g1 g2 _ => hfr1 b e g1 g2⟩
theorem w_L_timeOf {l : Launch} {G : kG} {h : kAH} (hl : l.stackTraces = false) {pl : Nat} {γ : kGh} {A : kAb} {f : Nat → Int} (hC : kRp G h pl γ A f) {n x : Int} (rn : -2147483648 ≤ n ∧ n < 2147483648) (rx : -2147483648 ≤ x ∧ x < 2147483648) {ol : Nat} {F9 : Nat → Int64} (hO : h ol = some (klo1 G 1 F9)) (hO0 : gOw γ ol = (0, 0)) : kC l G m_L_timeOf 7 1 6 [.ref pl, .int (iI n), .int (iI x), .ref ol] h (kLw G pl ol γ h (TtimeOf f n x) (Int32.toInt64 (iI (TtimeOf f n x).2.1))) kNo := by
  refine kC_ofH hl rfl rfl (Nat.le_of_ble_eq_true rfl) (L := [some (.ref pl), some (.int (iI n)), some (.int (iI x)), some (.ref ol), none]) rfl ?_
  refine k_aload_n (pc1 := 1) dL_timeOf_0 rfl rfl ?_
  refine k_iconst (pc1 := 2) dL_timeOf_1 rfl ?_
  refine k_aload_n (pc1 := 3) dL_timeOf_2 rfl rfl ?_
  refine k_iload_n (pc1 := 4) dL_timeOf_3 rfl rfl ?_
  refine k_iload_n (pc1 := 5) dL_timeOf_4 rfl rfl ?_
  refine k_callV dL_timeOf_5 rfl lk_RL_74 o_X5_timeOf (as := [.int (iI n), .int (iI x)]) rfl rfl (rp_P hC) rfl rfl (w_X5_timeOf hl hC rn rx) (by decide) (by decide) (by decide) (by decide) (k8 rfl) (fun v h1 hv => ?_) (fun E h1 hv => ?_)
  · skip
    obtain ⟨t0, hv1, γ1, A1, hC1, hfr1⟩ := hv
    subst hv1
    obtain ⟨hO1, hO2⟩ := hfr1 ol _ hO hO0
    refine k_st (st' := [.int (iI ((TtimeOf f n x).2.1)), .int (iI 0), .ref ol]) rfl ?_
    refine k_i2l (pc1 := 9) dL_timeOf_8 rfl ?_
    refine k_last (i := 0) (pc1 := 10) dL_timeOf_9 rfl hO1 (by decide) (by decide) (by decide) ?_
    obtain ⟨h2, eh2⟩ : ∃ z, z = kup h1 ol (klo1 G 1 (vp_updL F9 0 (Int32.toInt64 (iI ((TtimeOf f n x).2.1))))) := ⟨_, rfl⟩
    refine k_hp (h' := h2) eh2.symm ?_
    have hT2 : h2 ol = some (klo1 G 1 (vp_updL F9 0 (Int32.toInt64 (iI ((TtimeOf f n x).2.1))))) := by rw [eh2]; exact kup_same _ _ _
    have hG2 : ∀ b, b ≠ ol → h2 b = h1 b := fun b hb => by rw [eh2]; exact kup_ne hb
    clear eh2
    refine k_goto dL_timeOf_10 (tgt := 21) rfl ?_
    refine k_iconst (pc1 := 22) dL_timeOf_21 rfl ?_
    exact k_iret dL_timeOf_22 rfl rfl ⟨by rw [t0], ⟨_, hT2, fun _ => rfl⟩, γ1, A1, rp_un hC1 (fun b e hb h0 => (hG2 b (fun y => h0 (by rw [y]; exact hO2))).trans hb) (fun b hb => by rw [← hG2 b (fun y => by rw [y, hT2] at hb; cases hb)]; exact hb), hO2, fun b e g1 g2 g3 => ⟨(hG2 b g3).trans (hfr1 b e g1 g2).1, (hfr1 b e g1 g2).2⟩⟩
  · skip
    obtain ⟨t0, tE, γ1, A1, hC1, hfr1⟩ := hv
    obtain ⟨hO1, hO2⟩ := hfr1 ol _ hO hO0
    have hco : kCo f (TtimeOf f n x) := co_timeOf n x
    have hz9 := (List.getElem?_eq_some_iff.mp tE).1
    change (TtimeOf f n x).1.toNat < 3 at hz9
    have hz : (TtimeOf f n x).1 = 1 ∨ (TtimeOf f n x).1 = 2 := by have := hco.1; omega
    rcases hz with hz | hz
    · skip
      rw [hz] at tE
      have eE : "java/util/NoSuchElementException" = E := Option.some.inj tE
      subst eE
      refine kx_catch (name := "java/util/NoSuchElementException") [] (0, 10, 13, 36) [(0, 10, 17, 49)] rfl (fun z9 hz9 => nomatch hz9) (by decide) (by decide) (by decide) cl_RL_36 (by decide) (fun qx => ?_)
      refine k_astore (pc1 := 15) dL_timeOf_13 rfl (by decide) (k_loc (L' := [some (.ref pl), some (.int (iI n)), some (.int (iI x)), some (.ref ol), some (.ref qx)]) rfl ?_)
      refine k_iconst (pc1 := 16) dL_timeOf_15 rfl ?_
      exact k_iret dL_timeOf_16 rfl rfl ⟨by rw [hz], ⟨F9, hO1, fun y => absurd y (by omega)⟩, γ1, A1, hC1, hO2, fun b e g1 g2 _ => hfr1 b e g1 g2⟩
    · skip
      rw [hz] at tE
      have eE : "java/lang/IndexOutOfBoundsException" = E := Option.some.inj tE
      subst eE
      refine kx_catch (name := "java/lang/IndexOutOfBoundsException") [(0, 10, 13, 36)] (0, 10, 17, 49) [] rfl (List.forall_mem_cons.mpr ⟨⟨by decide, _, cl_RL_36, by decide⟩, (fun z9 hz9 => nomatch hz9)⟩) (by decide) (by decide) (by decide) cl_RL_49 (by decide) (fun qx => ?_)
      refine k_astore (pc1 := 19) dL_timeOf_17 rfl (by decide) (k_loc (L' := [some (.ref pl), some (.int (iI n)), some (.int (iI x)), some (.ref ol), some (.ref qx)]) rfl ?_)
      refine k_iconst (pc1 := 20) dL_timeOf_19 rfl ?_
      exact k_iret dL_timeOf_20 rfl rfl ⟨by rw [hz], ⟨F9, hO1, fun y => absurd y (by omega)⟩, γ1, A1, hC1, hO2, fun b e g1 g2 _ => hfr1 b e g1 g2⟩
theorem w_L_isCancelled {l : Launch} {G : kG} {h : kAH} (hl : l.stackTraces = false) {pl : Nat} {γ : kGh} {A : kAb} {f : Nat → Int} (hC : kRp G h pl γ A f) {n x : Int} (rn : -2147483648 ≤ n ∧ n < 2147483648) (rx : -2147483648 ≤ x ∧ x < 2147483648) {ol : Nat} {F9 : Nat → Int64} (hO : h ol = some (klo1 G 1 F9)) (hO0 : gOw γ ol = (0, 0)) : kC l G m_L_isCancelled 7 1 6 [.ref pl, .int (iI n), .int (iI x), .ref ol] h (kLw G pl ol γ h (TisCancelled f n x) (Int64.ofNat (if (TisCancelled f n x).2.1 = 0 then 0 else 1))) kNo := by
  refine kC_ofH hl rfl rfl (Nat.le_of_ble_eq_true rfl) (L := [some (.ref pl), some (.int (iI n)), some (.int (iI x)), some (.ref ol), none]) rfl ?_
  refine k_aload_n (pc1 := 1) dL_isCancelled_0 rfl rfl ?_
  refine k_iconst (pc1 := 2) dL_isCancelled_1 rfl ?_
  refine k_aload_n (pc1 := 3) dL_isCancelled_2 rfl rfl ?_
  refine k_iload_n (pc1 := 4) dL_isCancelled_3 rfl rfl ?_
  refine k_iload_n (pc1 := 5) dL_isCancelled_4 rfl rfl ?_
  refine k_callV dL_isCancelled_5 rfl lk_RL_77 o_X5_isCancelled (as := [.int (iI n), .int (iI x)]) rfl rfl (rp_P hC) rfl rfl (w_X5_isCancelled hl hC rn rx) (by decide) (by decide) (by decide) (by decide) (k8 rfl) (fun v h1 hv => ?_) (fun E h1 hv => ?_)
  · skip
    obtain ⟨t0, hv1, γ1, A1, hC1, hfr1⟩ := hv
    subst hv1
    obtain ⟨hO1, hO2⟩ := hfr1 ol _ hO hO0
    refine k_st (st' := [.int (iI ((TisCancelled f n x).2.1)), .int (iI 0), .ref ol]) rfl ?_
    have hbo := bo_isCancelled (f := f) n x
    refine k_if_eq (a := (TisCancelled f n x).2.1) dL_isCancelled_8 rfl (tgt := 15) rfl (by omega) (fun c8 : (TisCancelled f n x).2.1 = 0 => ?_) (fun c8 : (TisCancelled f n x).2.1 ≠ 0 => ?_)
    · skip
      refine k_lconst (pc1 := 16) dL_isCancelled_15 rfl ?_
      refine k_last (i := 0) (pc1 := 17) dL_isCancelled_16 rfl hO1 (by decide) (by decide) (by decide) ?_
      obtain ⟨h2, eh2⟩ : ∃ z, z = kup h1 ol (klo1 G 1 (vp_updL F9 0 (Int64.ofNat 0))) := ⟨_, rfl⟩
      refine k_hp (h' := h2) eh2.symm ?_
      have hT2 : h2 ol = some (klo1 G 1 (vp_updL F9 0 (Int64.ofNat 0))) := by rw [eh2]; exact kup_same _ _ _
      have hG2 : ∀ b, b ≠ ol → h2 b = h1 b := fun b hb => by rw [eh2]; exact kup_ne hb
      clear eh2
      refine k_goto dL_isCancelled_17 (tgt := 28) rfl ?_
      refine k_iconst (pc1 := 29) dL_isCancelled_28 rfl ?_
      exact k_iret dL_isCancelled_29 rfl rfl ⟨by rw [t0], ⟨_, hT2, fun _ => by first | rw [if_pos (by omega)]; rfl | rw [if_neg (by omega)]; rfl⟩, γ1, A1, rp_un hC1 (fun b e hb h0 => (hG2 b (fun y => h0 (by rw [y]; exact hO2))).trans hb) (fun b hb => by rw [← hG2 b (fun y => by rw [y, hT2] at hb; cases hb)]; exact hb), hO2, fun b e g1 g2 g3 => ⟨(hG2 b g3).trans (hfr1 b e g1 g2).1, (hfr1 b e g1 g2).2⟩⟩
    · skip
      refine k_lconst (pc1 := 12) dL_isCancelled_11 rfl ?_
      refine k_goto dL_isCancelled_12 (tgt := 16) rfl ?_
      refine k_last (i := 0) (pc1 := 17) dL_isCancelled_16 rfl hO1 (by decide) (by decide) (by decide) ?_
      obtain ⟨h2, eh2⟩ : ∃ z, z = kup h1 ol (klo1 G 1 (vp_updL F9 0 (Int64.ofNat 1))) := ⟨_, rfl⟩
      refine k_hp (h' := h2) eh2.symm ?_
      have hT2 : h2 ol = some (klo1 G 1 (vp_updL F9 0 (Int64.ofNat 1))) := by rw [eh2]; exact kup_same _ _ _
      have hG2 : ∀ b, b ≠ ol → h2 b = h1 b := fun b hb => by rw [eh2]; exact kup_ne hb
      clear eh2
      refine k_goto dL_isCancelled_17 (tgt := 28) rfl ?_
      refine k_iconst (pc1 := 29) dL_isCancelled_28 rfl ?_
      exact k_iret dL_isCancelled_29 rfl rfl ⟨by rw [t0], ⟨_, hT2, fun _ => by first | rw [if_pos (by omega)]; rfl | rw [if_neg (by omega)]; rfl⟩, γ1, A1, rp_un hC1 (fun b e hb h0 => (hG2 b (fun y => h0 (by rw [y]; exact hO2))).trans hb) (fun b hb => by rw [← hG2 b (fun y => by rw [y, hT2] at hb; cases hb)]; exact hb), hO2, fun b e g1 g2 g3 => ⟨(hG2 b g3).trans (hfr1 b e g1 g2).1, (hfr1 b e g1 g2).2⟩⟩
  · skip
    obtain ⟨t0, tE, γ1, A1, hC1, hfr1⟩ := hv
    obtain ⟨hO1, hO2⟩ := hfr1 ol _ hO hO0
    have hco : kCo f (TisCancelled f n x) := co_isCancelled n x
    have hz9 := (List.getElem?_eq_some_iff.mp tE).1
    change (TisCancelled f n x).1.toNat < 3 at hz9
    have hz : (TisCancelled f n x).1 = 1 ∨ (TisCancelled f n x).1 = 2 := by have := hco.1; omega
    rcases hz with hz | hz
    · skip
      rw [hz] at tE
      have eE : "java/util/NoSuchElementException" = E := Option.some.inj tE
      subst eE
      refine kx_catch (name := "java/util/NoSuchElementException") [] (0, 17, 20, 36) [(0, 17, 24, 49)] rfl (fun z9 hz9 => nomatch hz9) (by decide) (by decide) (by decide) cl_RL_36 (by decide) (fun qx => ?_)
      refine k_astore (pc1 := 22) dL_isCancelled_20 rfl (by decide) (k_loc (L' := [some (.ref pl), some (.int (iI n)), some (.int (iI x)), some (.ref ol), some (.ref qx)]) rfl ?_)
      refine k_iconst (pc1 := 23) dL_isCancelled_22 rfl ?_
      exact k_iret dL_isCancelled_23 rfl rfl ⟨by rw [hz], ⟨F9, hO1, fun y => absurd y (by omega)⟩, γ1, A1, hC1, hO2, fun b e g1 g2 _ => hfr1 b e g1 g2⟩
    · skip
      rw [hz] at tE
      have eE : "java/lang/IndexOutOfBoundsException" = E := Option.some.inj tE
      subst eE
      refine kx_catch (name := "java/lang/IndexOutOfBoundsException") [(0, 17, 20, 36)] (0, 17, 24, 49) [] rfl (List.forall_mem_cons.mpr ⟨⟨by decide, _, cl_RL_36, by decide⟩, (fun z9 hz9 => nomatch hz9)⟩) (by decide) (by decide) (by decide) cl_RL_49 (by decide) (fun qx => ?_)
      refine k_astore (pc1 := 26) dL_isCancelled_24 rfl (by decide) (k_loc (L' := [some (.ref pl), some (.int (iI n)), some (.int (iI x)), some (.ref ol), some (.ref qx)]) rfl ?_)
      refine k_iconst (pc1 := 27) dL_isCancelled_26 rfl ?_
      exact k_iret dL_isCancelled_27 rfl rfl ⟨by rw [hz], ⟨F9, hO1, fun y => absurd y (by omega)⟩, γ1, A1, hC1, hO2, fun b e g1 g2 _ => hfr1 b e g1 g2⟩
theorem w_L_roomOf {l : Launch} {G : kG} {h : kAH} (hl : l.stackTraces = false) {pl : Nat} {γ : kGh} {A : kAb} {f : Nat → Int} (hC : kRp G h pl γ A f) {n x : Int} (rn : -2147483648 ≤ n ∧ n < 2147483648) (rx : -2147483648 ≤ x ∧ x < 2147483648) {ol : Nat} {F9 : Nat → Int64} (hO : h ol = some (klo1 G 1 F9)) (hO0 : gOw γ ol = (0, 0)) : kC l G m_L_roomOf 7 1 6 [.ref pl, .int (iI n), .int (iI x), .ref ol] h (kLw G pl ol γ h (TroomOf f n x) (Int32.toInt64 (iI (TroomOf f n x).2.1))) kNo := by
  refine kC_ofH hl rfl rfl (Nat.le_of_ble_eq_true rfl) (L := [some (.ref pl), some (.int (iI n)), some (.int (iI x)), some (.ref ol), none]) rfl ?_
  refine k_aload_n (pc1 := 1) dL_roomOf_0 rfl rfl ?_
  refine k_iconst (pc1 := 2) dL_roomOf_1 rfl ?_
  refine k_aload_n (pc1 := 3) dL_roomOf_2 rfl rfl ?_
  refine k_iload_n (pc1 := 4) dL_roomOf_3 rfl rfl ?_
  refine k_iload_n (pc1 := 5) dL_roomOf_4 rfl rfl ?_
  refine k_callV dL_roomOf_5 rfl lk_RL_81 o_X5_roomOf (as := [.int (iI n), .int (iI x)]) rfl rfl (rp_P hC) rfl rfl (w_X5_roomOf hl hC rn rx) (by decide) (by decide) (by decide) (by decide) (k8 rfl) (fun v h1 hv => ?_) (fun E h1 hv => ?_)
  · skip
    obtain ⟨t0, hv1, γ1, A1, hC1, hfr1⟩ := hv
    subst hv1
    obtain ⟨hO1, hO2⟩ := hfr1 ol _ hO hO0
    refine k_st (st' := [.int (iI ((TroomOf f n x).2.1)), .int (iI 0), .ref ol]) rfl ?_
    refine k_i2l (pc1 := 9) dL_roomOf_8 rfl ?_
    refine k_last (i := 0) (pc1 := 10) dL_roomOf_9 rfl hO1 (by decide) (by decide) (by decide) ?_
    obtain ⟨h2, eh2⟩ : ∃ z, z = kup h1 ol (klo1 G 1 (vp_updL F9 0 (Int32.toInt64 (iI ((TroomOf f n x).2.1))))) := ⟨_, rfl⟩
    refine k_hp (h' := h2) eh2.symm ?_
    have hT2 : h2 ol = some (klo1 G 1 (vp_updL F9 0 (Int32.toInt64 (iI ((TroomOf f n x).2.1))))) := by rw [eh2]; exact kup_same _ _ _
    have hG2 : ∀ b, b ≠ ol → h2 b = h1 b := fun b hb => by rw [eh2]; exact kup_ne hb
    clear eh2
    refine k_goto dL_roomOf_10 (tgt := 25) rfl ?_
    refine k_iconst (pc1 := 26) dL_roomOf_25 rfl ?_
    exact k_iret dL_roomOf_26 rfl rfl ⟨by rw [t0], ⟨_, hT2, fun _ => rfl⟩, γ1, A1, rp_un hC1 (fun b e hb h0 => (hG2 b (fun y => h0 (by rw [y]; exact hO2))).trans hb) (fun b hb => by rw [← hG2 b (fun y => by rw [y, hT2] at hb; cases hb)]; exact hb), hO2, fun b e g1 g2 g3 => ⟨(hG2 b g3).trans (hfr1 b e g1 g2).1, (hfr1 b e g1 g2).2⟩⟩
  · skip
    obtain ⟨t0, tE, γ1, A1, hC1, hfr1⟩ := hv
    obtain ⟨hO1, hO2⟩ := hfr1 ol _ hO hO0
    have hco : kCo f (TroomOf f n x) := co_roomOf n x
    have hz9 := (List.getElem?_eq_some_iff.mp tE).1
    change (TroomOf f n x).1.toNat < 4 at hz9
    have hz : (TroomOf f n x).1 = 1 ∨ (TroomOf f n x).1 = 2 ∨ (TroomOf f n x).1 = 3 := by have := hco.1; omega
    rcases hz with hz | hz | hz
    · skip
      rw [hz] at tE
      have eE : "java/util/NoSuchElementException" = E := Option.some.inj tE
      subst eE
      refine kx_catch (name := "java/util/NoSuchElementException") [] (0, 10, 13, 36) [(0, 10, 17, 49), (0, 10, 21, 29)] rfl (fun z9 hz9 => nomatch hz9) (by decide) (by decide) (by decide) cl_RL_36 (by decide) (fun qx => ?_)
      refine k_astore (pc1 := 15) dL_roomOf_13 rfl (by decide) (k_loc (L' := [some (.ref pl), some (.int (iI n)), some (.int (iI x)), some (.ref ol), some (.ref qx)]) rfl ?_)
      refine k_iconst (pc1 := 16) dL_roomOf_15 rfl ?_
      exact k_iret dL_roomOf_16 rfl rfl ⟨by rw [hz], ⟨F9, hO1, fun y => absurd y (by omega)⟩, γ1, A1, hC1, hO2, fun b e g1 g2 _ => hfr1 b e g1 g2⟩
    · skip
      rw [hz] at tE
      have eE : "java/lang/IndexOutOfBoundsException" = E := Option.some.inj tE
      subst eE
      refine kx_catch (name := "java/lang/IndexOutOfBoundsException") [(0, 10, 13, 36)] (0, 10, 17, 49) [(0, 10, 21, 29)] rfl (List.forall_mem_cons.mpr ⟨⟨by decide, _, cl_RL_36, by decide⟩, (fun z9 hz9 => nomatch hz9)⟩) (by decide) (by decide) (by decide) cl_RL_49 (by decide) (fun qx => ?_)
      refine k_astore (pc1 := 19) dL_roomOf_17 rfl (by decide) (k_loc (L' := [some (.ref pl), some (.int (iI n)), some (.int (iI x)), some (.ref ol), some (.ref qx)]) rfl ?_)
      refine k_iconst (pc1 := 20) dL_roomOf_19 rfl ?_
      exact k_iret dL_roomOf_20 rfl rfl ⟨by rw [hz], ⟨F9, hO1, fun y => absurd y (by omega)⟩, γ1, A1, hC1, hO2, fun b e g1 g2 _ => hfr1 b e g1 g2⟩
    · skip
      rw [hz] at tE
      have eE : "java/lang/IllegalStateException" = E := Option.some.inj tE
      subst eE
      refine kx_catch (name := "java/lang/IllegalStateException") [(0, 10, 13, 36), (0, 10, 17, 49)] (0, 10, 21, 29) [] rfl (List.forall_mem_cons.mpr ⟨⟨by decide, _, cl_RL_36, by decide⟩, (List.forall_mem_cons.mpr ⟨⟨by decide, _, cl_RL_49, by decide⟩, (fun z9 hz9 => nomatch hz9)⟩)⟩) (by decide) (by decide) (by decide) cl_RL_29 (by decide) (fun qx => ?_)
      refine k_astore (pc1 := 23) dL_roomOf_21 rfl (by decide) (k_loc (L' := [some (.ref pl), some (.int (iI n)), some (.int (iI x)), some (.ref ol), some (.ref qx)]) rfl ?_)
      refine k_iconst (pc1 := 24) dL_roomOf_23 rfl ?_
      exact k_iret dL_roomOf_24 rfl rfl ⟨by rw [hz], ⟨F9, hO1, fun y => absurd y (by omega)⟩, γ1, A1, hC1, hO2, fun b e g1 g2 _ => hfr1 b e g1 g2⟩
theorem w_L_refusalReason {l : Launch} {G : kG} {h : kAH} (hl : l.stackTraces = false) {pl : Nat} {γ : kGh} {A : kAb} {f : Nat → Int} (hC : kRp G h pl γ A f)  {ol : Nat} {F9 : Nat → Int64} (hO : h ol = some (klo1 G 1 F9)) (hO0 : gOw γ ol = (0, 0)) : kC l G m_L_refusalReason 3 1 6 [.ref pl, .ref ol] h (kLw G pl ol γ h (TrefusalReason f) (Int32.toInt64 (iI (TrefusalReason f).2.1))) kNo := by
  refine kC_ofH hl rfl rfl (Nat.le_of_ble_eq_true rfl) (L := [some (.ref pl), some (.ref ol), none]) rfl ?_
  refine k_aload_n (pc1 := 1) dL_refusalReason_0 rfl rfl ?_
  refine k_iconst (pc1 := 2) dL_refusalReason_1 rfl ?_
  refine k_aload_n (pc1 := 3) dL_refusalReason_2 rfl rfl ?_
  refine k_callV dL_refusalReason_3 rfl lk_RL_84 o_X5_refusalReason (as := []) rfl rfl (rp_P hC) rfl rfl (w_X5_refusalReason hl hC ) (by decide) (by decide) (by decide) (by decide) (k8 rfl) (fun v h1 hv => ?_) (fun E h1 hv => ?_)
  · skip
    obtain ⟨t0, hv1, γ1, A1, hC1, hfr1⟩ := hv
    subst hv1
    obtain ⟨hO1, hO2⟩ := hfr1 ol _ hO hO0
    refine k_st (st' := [.int (iI ((TrefusalReason f).2.1)), .int (iI 0), .ref ol]) rfl ?_
    refine k_i2l (pc1 := 7) dL_refusalReason_6 rfl ?_
    refine k_last (i := 0) (pc1 := 8) dL_refusalReason_7 rfl hO1 (by decide) (by decide) (by decide) ?_
    obtain ⟨h2, eh2⟩ : ∃ z, z = kup h1 ol (klo1 G 1 (vp_updL F9 0 (Int32.toInt64 (iI ((TrefusalReason f).2.1))))) := ⟨_, rfl⟩
    refine k_hp (h' := h2) eh2.symm ?_
    have hT2 : h2 ol = some (klo1 G 1 (vp_updL F9 0 (Int32.toInt64 (iI ((TrefusalReason f).2.1))))) := by rw [eh2]; exact kup_same _ _ _
    have hG2 : ∀ b, b ≠ ol → h2 b = h1 b := fun b hb => by rw [eh2]; exact kup_ne hb
    clear eh2
    refine k_goto dL_refusalReason_8 (tgt := 14) rfl ?_
    refine k_iconst (pc1 := 15) dL_refusalReason_14 rfl ?_
    exact k_iret dL_refusalReason_15 rfl rfl ⟨by rw [t0], ⟨_, hT2, fun _ => rfl⟩, γ1, A1, rp_un hC1 (fun b e hb h0 => (hG2 b (fun y => h0 (by rw [y]; exact hO2))).trans hb) (fun b hb => by rw [← hG2 b (fun y => by rw [y, hT2] at hb; cases hb)]; exact hb), hO2, fun b e g1 g2 g3 => ⟨(hG2 b g3).trans (hfr1 b e g1 g2).1, (hfr1 b e g1 g2).2⟩⟩
  · skip
    obtain ⟨t0, tE, γ1, A1, hC1, hfr1⟩ := hv
    obtain ⟨hO1, hO2⟩ := hfr1 ol _ hO hO0
    have hco : kCo f (TrefusalReason f) := co_refusalReason (f := f)
    have hz9 := (List.getElem?_eq_some_iff.mp tE).1
    change (TrefusalReason f).1.toNat < 2 at hz9
    have hz : (TrefusalReason f).1 = 1 := by have := hco.1; omega
    rw [hz] at tE
    have eE : "java/util/NoSuchElementException" = E := Option.some.inj tE
    subst eE
    refine kx_catch (name := "java/util/NoSuchElementException") [] (0, 8, 11, 36) [] rfl (fun z9 hz9 => nomatch hz9) (by decide) (by decide) (by decide) cl_RL_36 (by decide) (fun qx => ?_)
    refine k_astore_n (pc1 := 12) dL_refusalReason_11 rfl (by decide) (k_loc (L' := [some (.ref pl), some (.ref ol), some (.ref qx)]) rfl ?_)
    refine k_iconst (pc1 := 13) dL_refusalReason_12 rfl ?_
    exact k_iret dL_refusalReason_13 rfl rfl ⟨by rw [hz], ⟨F9, hO1, fun y => absurd y (by omega)⟩, γ1, A1, hC1, hO2, fun b e g1 g2 _ => hfr1 b e g1 g2⟩
theorem w_L_refusalDetail {l : Launch} {G : kG} {h : kAH} (hl : l.stackTraces = false) {pl : Nat} {γ : kGh} {A : kAb} {f : Nat → Int} (hC : kRp G h pl γ A f)  {ol : Nat} {F9 : Nat → Int64} (hO : h ol = some (klo1 G 1 F9)) (hO0 : gOw γ ol = (0, 0)) : kC l G m_L_refusalDetail 3 1 6 [.ref pl, .ref ol] h (kLw G pl ol γ h (TrefusalDetail f) (Int32.toInt64 (iI (TrefusalDetail f).2.1))) kNo := by
  refine kC_ofH hl rfl rfl (Nat.le_of_ble_eq_true rfl) (L := [some (.ref pl), some (.ref ol), none]) rfl ?_
  refine k_aload_n (pc1 := 1) dL_refusalDetail_0 rfl rfl ?_
  refine k_iconst (pc1 := 2) dL_refusalDetail_1 rfl ?_
  refine k_aload_n (pc1 := 3) dL_refusalDetail_2 rfl rfl ?_
  refine k_callV dL_refusalDetail_3 rfl lk_RL_88 o_X5_refusalDetail (as := []) rfl rfl (rp_P hC) rfl rfl (w_X5_refusalDetail hl hC ) (by decide) (by decide) (by decide) (by decide) (k8 rfl) (fun v h1 hv => ?_) (fun E h1 hv => ?_)
  · skip
    obtain ⟨t0, hv1, γ1, A1, hC1, hfr1⟩ := hv
    subst hv1
    obtain ⟨hO1, hO2⟩ := hfr1 ol _ hO hO0
    refine k_st (st' := [.int (iI ((TrefusalDetail f).2.1)), .int (iI 0), .ref ol]) rfl ?_
    refine k_i2l (pc1 := 7) dL_refusalDetail_6 rfl ?_
    refine k_last (i := 0) (pc1 := 8) dL_refusalDetail_7 rfl hO1 (by decide) (by decide) (by decide) ?_
    obtain ⟨h2, eh2⟩ : ∃ z, z = kup h1 ol (klo1 G 1 (vp_updL F9 0 (Int32.toInt64 (iI ((TrefusalDetail f).2.1))))) := ⟨_, rfl⟩
    refine k_hp (h' := h2) eh2.symm ?_
    have hT2 : h2 ol = some (klo1 G 1 (vp_updL F9 0 (Int32.toInt64 (iI ((TrefusalDetail f).2.1))))) := by rw [eh2]; exact kup_same _ _ _
    have hG2 : ∀ b, b ≠ ol → h2 b = h1 b := fun b hb => by rw [eh2]; exact kup_ne hb
    clear eh2
    refine k_goto dL_refusalDetail_8 (tgt := 14) rfl ?_
    refine k_iconst (pc1 := 15) dL_refusalDetail_14 rfl ?_
    exact k_iret dL_refusalDetail_15 rfl rfl ⟨by rw [t0], ⟨_, hT2, fun _ => rfl⟩, γ1, A1, rp_un hC1 (fun b e hb h0 => (hG2 b (fun y => h0 (by rw [y]; exact hO2))).trans hb) (fun b hb => by rw [← hG2 b (fun y => by rw [y, hT2] at hb; cases hb)]; exact hb), hO2, fun b e g1 g2 g3 => ⟨(hG2 b g3).trans (hfr1 b e g1 g2).1, (hfr1 b e g1 g2).2⟩⟩
  · skip
    obtain ⟨t0, tE, γ1, A1, hC1, hfr1⟩ := hv
    obtain ⟨hO1, hO2⟩ := hfr1 ol _ hO hO0
    have hco : kCo f (TrefusalDetail f) := co_refusalDetail (f := f)
    have hz9 := (List.getElem?_eq_some_iff.mp tE).1
    change (TrefusalDetail f).1.toNat < 2 at hz9
    have hz : (TrefusalDetail f).1 = 1 := by have := hco.1; omega
    rw [hz] at tE
    have eE : "java/util/NoSuchElementException" = E := Option.some.inj tE
    subst eE
    refine kx_catch (name := "java/util/NoSuchElementException") [] (0, 8, 11, 36) [] rfl (fun z9 hz9 => nomatch hz9) (by decide) (by decide) (by decide) cl_RL_36 (by decide) (fun qx => ?_)
    refine k_astore_n (pc1 := 12) dL_refusalDetail_11 rfl (by decide) (k_loc (L' := [some (.ref pl), some (.ref ol), some (.ref qx)]) rfl ?_)
    refine k_iconst (pc1 := 13) dL_refusalDetail_12 rfl ?_
    exact k_iret dL_refusalDetail_13 rfl rfl ⟨by rw [hz], ⟨F9, hO1, fun y => absurd y (by omega)⟩, γ1, A1, hC1, hO2, fun b e g1 g2 _ => hfr1 b e g1 g2⟩
theorem w_L_isFree {l : Launch} {G : kG} {h : kAH} (hl : l.stackTraces = false) {pl : Nat} {γ : kGh} {A : kAb} {f : Nat → Int} (hC : kRp G h pl γ A f) {p k t : Int} (rp : -2147483648 ≤ p ∧ p < 2147483648) (rk : -2147483648 ≤ k ∧ k < 2147483648) (rt : -2147483648 ≤ t ∧ t < 2147483648) {ol : Nat} {F9 : Nat → Int64} (hO : h ol = some (klo1 G 1 F9)) (hO0 : gOw γ ol = (0, 0)) : kC l G m_L_isFree 6 1 6 [.ref pl, .int (iI p), .int (iI k), .int (iI t), .ref ol] h (kLw G pl ol γ h (TisFree f p k t) (Int64.ofNat (if (TisFree f p k t).2.1 = 0 then 0 else 1))) kNo := by
  refine kC_ofH hl rfl rfl (Nat.le_of_ble_eq_true rfl) (L := [some (.ref pl), some (.int (iI p)), some (.int (iI k)), some (.int (iI t)), some (.ref ol), none]) rfl ?_
  refine k_aload (pc1 := 2) dL_isFree_0 rfl rfl ?_
  refine k_iconst (pc1 := 3) dL_isFree_2 rfl ?_
  refine k_aload_n (pc1 := 4) dL_isFree_3 rfl rfl ?_
  refine k_iload_n (pc1 := 5) dL_isFree_4 rfl rfl ?_
  refine k_iload_n (pc1 := 6) dL_isFree_5 rfl rfl ?_
  refine k_iload_n (pc1 := 7) dL_isFree_6 rfl rfl ?_
  refine k_callV dL_isFree_7 rfl lk_RL_91 o_X5_isFree (as := [.int (iI p), .int (iI k), .int (iI t)]) rfl rfl (rp_P hC) rfl rfl (w_X5_isFree hl hC rp rk rt) (by decide) (by decide) (by decide) (by decide) (k8 rfl) (fun v h1 hv => ?_) (fun E h1 hv => ?_)
  · skip
    obtain ⟨t0, hv1, γ1, A1, hC1, hfr1⟩ := hv
    subst hv1
    obtain ⟨hO1, hO2⟩ := hfr1 ol _ hO hO0
    refine k_st (st' := [.int (iI ((TisFree f p k t).2.1)), .int (iI 0), .ref ol]) rfl ?_
    have hbo := bo_isFree (f := f) p k t
    refine k_if_eq (a := (TisFree f p k t).2.1) dL_isFree_10 rfl (tgt := 17) rfl (by omega) (fun c10 : (TisFree f p k t).2.1 = 0 => ?_) (fun c10 : (TisFree f p k t).2.1 ≠ 0 => ?_)
    · skip
      refine k_lconst (pc1 := 18) dL_isFree_17 rfl ?_
      refine k_last (i := 0) (pc1 := 19) dL_isFree_18 rfl hO1 (by decide) (by decide) (by decide) ?_
      obtain ⟨h2, eh2⟩ : ∃ z, z = kup h1 ol (klo1 G 1 (vp_updL F9 0 (Int64.ofNat 0))) := ⟨_, rfl⟩
      refine k_hp (h' := h2) eh2.symm ?_
      have hT2 : h2 ol = some (klo1 G 1 (vp_updL F9 0 (Int64.ofNat 0))) := by rw [eh2]; exact kup_same _ _ _
      have hG2 : ∀ b, b ≠ ol → h2 b = h1 b := fun b hb => by rw [eh2]; exact kup_ne hb
      clear eh2
      refine k_goto dL_isFree_19 (tgt := 26) rfl ?_
      refine k_iconst (pc1 := 27) dL_isFree_26 rfl ?_
      exact k_iret dL_isFree_27 rfl rfl ⟨by rw [t0], ⟨_, hT2, fun _ => by first | rw [if_pos (by omega)]; rfl | rw [if_neg (by omega)]; rfl⟩, γ1, A1, rp_un hC1 (fun b e hb h0 => (hG2 b (fun y => h0 (by rw [y]; exact hO2))).trans hb) (fun b hb => by rw [← hG2 b (fun y => by rw [y, hT2] at hb; cases hb)]; exact hb), hO2, fun b e g1 g2 g3 => ⟨(hG2 b g3).trans (hfr1 b e g1 g2).1, (hfr1 b e g1 g2).2⟩⟩
    · skip
      refine k_lconst (pc1 := 14) dL_isFree_13 rfl ?_
      refine k_goto dL_isFree_14 (tgt := 18) rfl ?_
      refine k_last (i := 0) (pc1 := 19) dL_isFree_18 rfl hO1 (by decide) (by decide) (by decide) ?_
      obtain ⟨h2, eh2⟩ : ∃ z, z = kup h1 ol (klo1 G 1 (vp_updL F9 0 (Int64.ofNat 1))) := ⟨_, rfl⟩
      refine k_hp (h' := h2) eh2.symm ?_
      have hT2 : h2 ol = some (klo1 G 1 (vp_updL F9 0 (Int64.ofNat 1))) := by rw [eh2]; exact kup_same _ _ _
      have hG2 : ∀ b, b ≠ ol → h2 b = h1 b := fun b hb => by rw [eh2]; exact kup_ne hb
      clear eh2
      refine k_goto dL_isFree_19 (tgt := 26) rfl ?_
      refine k_iconst (pc1 := 27) dL_isFree_26 rfl ?_
      exact k_iret dL_isFree_27 rfl rfl ⟨by rw [t0], ⟨_, hT2, fun _ => by first | rw [if_pos (by omega)]; rfl | rw [if_neg (by omega)]; rfl⟩, γ1, A1, rp_un hC1 (fun b e hb h0 => (hG2 b (fun y => h0 (by rw [y]; exact hO2))).trans hb) (fun b hb => by rw [← hG2 b (fun y => by rw [y, hT2] at hb; cases hb)]; exact hb), hO2, fun b e g1 g2 g3 => ⟨(hG2 b g3).trans (hfr1 b e g1 g2).1, (hfr1 b e g1 g2).2⟩⟩
  · skip
    obtain ⟨t0, tE, γ1, A1, hC1, hfr1⟩ := hv
    obtain ⟨hO1, hO2⟩ := hfr1 ol _ hO hO0
    have hco : kCo f (TisFree f p k t) := co_isFree p k t
    have hz9 := (List.getElem?_eq_some_iff.mp tE).1
    change (TisFree f p k t).1.toNat < 2 at hz9
    have hz : (TisFree f p k t).1 = 1 := by have := hco.1; omega
    rw [hz] at tE
    have eE : "java/lang/IllegalArgumentException" = E := Option.some.inj tE
    subst eE
    refine kx_catch (name := "java/lang/IllegalArgumentException") [] (0, 19, 22, 13) [] rfl (fun z9 hz9 => nomatch hz9) (by decide) (by decide) (by decide) cl_RL_13 (by decide) (fun qx => ?_)
    refine k_astore (pc1 := 24) dL_isFree_22 rfl (by decide) (k_loc (L' := [some (.ref pl), some (.int (iI p)), some (.int (iI k)), some (.int (iI t)), some (.ref ol), some (.ref qx)]) rfl ?_)
    refine k_iconst (pc1 := 25) dL_isFree_24 rfl ?_
    exact k_iret dL_isFree_25 rfl rfl ⟨by rw [hz], ⟨F9, hO1, fun y => absurd y (by omega)⟩, γ1, A1, hC1, hO2, fun b e g1 g2 _ => hfr1 b e g1 g2⟩
theorem w_L_meetingOf {l : Launch} {G : kG} {h : kAH} (hl : l.stackTraces = false) {pl : Nat} {γ : kGh} {A : kAb} {f : Nat → Int} (hC : kRp G h pl γ A f) {p k t : Int} (rp : -2147483648 ≤ p ∧ p < 2147483648) (rk : -2147483648 ≤ k ∧ k < 2147483648) (rt : -2147483648 ≤ t ∧ t < 2147483648) {ol : Nat} {F9 : Nat → Int64} (hO : h ol = some (klo1 G 1 F9)) (hO0 : gOw γ ol = (0, 0)) : kC l G m_L_meetingOf 6 1 6 [.ref pl, .int (iI p), .int (iI k), .int (iI t), .ref ol] h (kLw G pl ol γ h (TmeetingOf f p k t) (Int32.toInt64 (iI (TmeetingOf f p k t).2.1))) kNo := by
  refine kC_ofH hl rfl rfl (Nat.le_of_ble_eq_true rfl) (L := [some (.ref pl), some (.int (iI p)), some (.int (iI k)), some (.int (iI t)), some (.ref ol), none]) rfl ?_
  refine k_aload (pc1 := 2) dL_meetingOf_0 rfl rfl ?_
  refine k_iconst (pc1 := 3) dL_meetingOf_2 rfl ?_
  refine k_aload_n (pc1 := 4) dL_meetingOf_3 rfl rfl ?_
  refine k_iload_n (pc1 := 5) dL_meetingOf_4 rfl rfl ?_
  refine k_iload_n (pc1 := 6) dL_meetingOf_5 rfl rfl ?_
  refine k_iload_n (pc1 := 7) dL_meetingOf_6 rfl rfl ?_
  refine k_callV dL_meetingOf_7 rfl lk_RL_95 o_X5_meetingOf (as := [.int (iI p), .int (iI k), .int (iI t)]) rfl rfl (rp_P hC) rfl rfl (w_X5_meetingOf hl hC rp rk rt) (by decide) (by decide) (by decide) (by decide) (k8 rfl) (fun v h1 hv => ?_) (fun E h1 hv => ?_)
  · skip
    obtain ⟨t0, hv1, γ1, A1, hC1, hfr1⟩ := hv
    subst hv1
    obtain ⟨hO1, hO2⟩ := hfr1 ol _ hO hO0
    refine k_st (st' := [.int (iI ((TmeetingOf f p k t).2.1)), .int (iI 0), .ref ol]) rfl ?_
    refine k_i2l (pc1 := 11) dL_meetingOf_10 rfl ?_
    refine k_last (i := 0) (pc1 := 12) dL_meetingOf_11 rfl hO1 (by decide) (by decide) (by decide) ?_
    obtain ⟨h2, eh2⟩ : ∃ z, z = kup h1 ol (klo1 G 1 (vp_updL F9 0 (Int32.toInt64 (iI ((TmeetingOf f p k t).2.1))))) := ⟨_, rfl⟩
    refine k_hp (h' := h2) eh2.symm ?_
    have hT2 : h2 ol = some (klo1 G 1 (vp_updL F9 0 (Int32.toInt64 (iI ((TmeetingOf f p k t).2.1))))) := by rw [eh2]; exact kup_same _ _ _
    have hG2 : ∀ b, b ≠ ol → h2 b = h1 b := fun b hb => by rw [eh2]; exact kup_ne hb
    clear eh2
    refine k_goto dL_meetingOf_12 (tgt := 23) rfl ?_
    refine k_iconst (pc1 := 24) dL_meetingOf_23 rfl ?_
    exact k_iret dL_meetingOf_24 rfl rfl ⟨by rw [t0], ⟨_, hT2, fun _ => rfl⟩, γ1, A1, rp_un hC1 (fun b e hb h0 => (hG2 b (fun y => h0 (by rw [y]; exact hO2))).trans hb) (fun b hb => by rw [← hG2 b (fun y => by rw [y, hT2] at hb; cases hb)]; exact hb), hO2, fun b e g1 g2 g3 => ⟨(hG2 b g3).trans (hfr1 b e g1 g2).1, (hfr1 b e g1 g2).2⟩⟩
  · skip
    obtain ⟨t0, tE, γ1, A1, hC1, hfr1⟩ := hv
    obtain ⟨hO1, hO2⟩ := hfr1 ol _ hO hO0
    have hco : kCo f (TmeetingOf f p k t) := co_meetingOf p k t
    have hz9 := (List.getElem?_eq_some_iff.mp tE).1
    change (TmeetingOf f p k t).1.toNat < 3 at hz9
    have hz : (TmeetingOf f p k t).1 = 1 ∨ (TmeetingOf f p k t).1 = 2 := by have := hco.1; omega
    rcases hz with hz | hz
    · skip
      rw [hz] at tE
      have eE : "java/lang/IllegalArgumentException" = E := Option.some.inj tE
      subst eE
      refine kx_catch (name := "java/lang/IllegalArgumentException") [] (0, 12, 15, 13) [(0, 12, 19, 36)] rfl (fun z9 hz9 => nomatch hz9) (by decide) (by decide) (by decide) cl_RL_13 (by decide) (fun qx => ?_)
      refine k_astore (pc1 := 17) dL_meetingOf_15 rfl (by decide) (k_loc (L' := [some (.ref pl), some (.int (iI p)), some (.int (iI k)), some (.int (iI t)), some (.ref ol), some (.ref qx)]) rfl ?_)
      refine k_iconst (pc1 := 18) dL_meetingOf_17 rfl ?_
      exact k_iret dL_meetingOf_18 rfl rfl ⟨by rw [hz], ⟨F9, hO1, fun y => absurd y (by omega)⟩, γ1, A1, hC1, hO2, fun b e g1 g2 _ => hfr1 b e g1 g2⟩
    · skip
      rw [hz] at tE
      have eE : "java/util/NoSuchElementException" = E := Option.some.inj tE
      subst eE
      refine kx_catch (name := "java/util/NoSuchElementException") [(0, 12, 15, 13)] (0, 12, 19, 36) [] rfl (List.forall_mem_cons.mpr ⟨⟨by decide, _, cl_RL_13, by decide⟩, (fun z9 hz9 => nomatch hz9)⟩) (by decide) (by decide) (by decide) cl_RL_36 (by decide) (fun qx => ?_)
      refine k_astore (pc1 := 21) dL_meetingOf_19 rfl (by decide) (k_loc (L' := [some (.ref pl), some (.int (iI p)), some (.int (iI k)), some (.int (iI t)), some (.ref ol), some (.ref qx)]) rfl ?_)
      refine k_iconst (pc1 := 22) dL_meetingOf_21 rfl ?_
      exact k_iret dL_meetingOf_22 rfl rfl ⟨by rw [hz], ⟨F9, hO1, fun y => absurd y (by omega)⟩, γ1, A1, hC1, hO2, fun b e g1 g2 _ => hfr1 b e g1 g2⟩
theorem w_L_freeTimes {l : Launch} {G : kG} {h : kAH} (hl : l.stackTraces = false) {pl : Nat} {γ : kGh} {A : kAb} {f : Nat → Int} (hC : kRp G h pl γ A f) {p k : Int} (rp : -2147483648 ≤ p ∧ p < 2147483648) (rk : -2147483648 ≤ k ∧ k < 2147483648) {ol : Nat} {F9 : Nat → Int64} (hO : h ol = some (klo1 G 1 F9)) (hO0 : gOw γ ol = (0, 0)) : kC l G m_L_freeTimes 6 1 6 [.ref pl, .int (iI p), .int (iI k), .ref ol] h (kLw G pl ol γ h (Tfrees f p k) (Int32.toInt64 (iI (Tfrees f p k).2.1))) kNo := by
  refine kC_ofH hl rfl rfl (Nat.le_of_ble_eq_true rfl) (L := [some (.ref pl), some (.int (iI p)), some (.int (iI k)), some (.ref ol), none]) rfl ?_
  refine k_aload_n (pc1 := 1) dL_freeTimes_0 rfl rfl ?_
  refine k_iconst (pc1 := 2) dL_freeTimes_1 rfl ?_
  refine k_aload_n (pc1 := 3) dL_freeTimes_2 rfl rfl ?_
  refine k_iload_n (pc1 := 4) dL_freeTimes_3 rfl rfl ?_
  refine k_iload_n (pc1 := 5) dL_freeTimes_4 rfl rfl ?_
  refine k_callV dL_freeTimes_5 rfl lk_RL_98 o_X5_freeTimes (as := [.int (iI p), .int (iI k)]) rfl rfl (rp_P hC) rfl rfl (w_X5_freeTimes hl hC rp rk) (by decide) (by decide) (by decide) (by decide) (k8 rfl) (fun v h1 hv => ?_) (fun E h1 hv => ?_)
  · skip
    obtain ⟨t0, hv1, γ1, A1, hC1, hfr1⟩ := hv
    subst hv1
    obtain ⟨hO1, hO2⟩ := hfr1 ol _ hO hO0
    refine k_st (st' := [.int (iI ((Tfrees f p k).2.1)), .int (iI 0), .ref ol]) rfl ?_
    refine k_i2l (pc1 := 9) dL_freeTimes_8 rfl ?_
    refine k_last (i := 0) (pc1 := 10) dL_freeTimes_9 rfl hO1 (by decide) (by decide) (by decide) ?_
    obtain ⟨h2, eh2⟩ : ∃ z, z = kup h1 ol (klo1 G 1 (vp_updL F9 0 (Int32.toInt64 (iI ((Tfrees f p k).2.1))))) := ⟨_, rfl⟩
    refine k_hp (h' := h2) eh2.symm ?_
    have hT2 : h2 ol = some (klo1 G 1 (vp_updL F9 0 (Int32.toInt64 (iI ((Tfrees f p k).2.1))))) := by rw [eh2]; exact kup_same _ _ _
    have hG2 : ∀ b, b ≠ ol → h2 b = h1 b := fun b hb => by rw [eh2]; exact kup_ne hb
    clear eh2
    refine k_goto dL_freeTimes_10 (tgt := 17) rfl ?_
    refine k_iconst (pc1 := 18) dL_freeTimes_17 rfl ?_
    exact k_iret dL_freeTimes_18 rfl rfl ⟨by rw [t0], ⟨_, hT2, fun _ => rfl⟩, γ1, A1, rp_un hC1 (fun b e hb h0 => (hG2 b (fun y => h0 (by rw [y]; exact hO2))).trans hb) (fun b hb => by rw [← hG2 b (fun y => by rw [y, hT2] at hb; cases hb)]; exact hb), hO2, fun b e g1 g2 g3 => ⟨(hG2 b g3).trans (hfr1 b e g1 g2).1, (hfr1 b e g1 g2).2⟩⟩
  · skip
    obtain ⟨t0, tE, γ1, A1, hC1, hfr1⟩ := hv
    obtain ⟨hO1, hO2⟩ := hfr1 ol _ hO hO0
    have hco : kCo f (Tfrees f p k) := co_frees p k
    have hz9 := (List.getElem?_eq_some_iff.mp tE).1
    change (Tfrees f p k).1.toNat < 2 at hz9
    have hz : (Tfrees f p k).1 = 1 := by have := hco.1; omega
    rw [hz] at tE
    have eE : "java/lang/IllegalArgumentException" = E := Option.some.inj tE
    subst eE
    refine kx_catch (name := "java/lang/IllegalArgumentException") [] (0, 10, 13, 13) [] rfl (fun z9 hz9 => nomatch hz9) (by decide) (by decide) (by decide) cl_RL_13 (by decide) (fun qx => ?_)
    refine k_astore (pc1 := 15) dL_freeTimes_13 rfl (by decide) (k_loc (L' := [some (.ref pl), some (.int (iI p)), some (.int (iI k)), some (.ref ol), some (.ref qx)]) rfl ?_)
    refine k_iconst (pc1 := 16) dL_freeTimes_15 rfl ?_
    exact k_iret dL_freeTimes_16 rfl rfl ⟨by rw [hz], ⟨F9, hO1, fun y => absurd y (by omega)⟩, γ1, A1, hC1, hO2, fun b e g1 g2 _ => hfr1 b e g1 g2⟩
theorem w_L_freeByTrying {l : Launch} {G : kG} {h : kAH} (hl : l.stackTraces = false) {pl : Nat} {γ : kGh} {A : kAb} {f : Nat → Int} (hC : kRp G h pl γ A f) {p k : Int} (rp : -2147483648 ≤ p ∧ p < 2147483648) (rk : -2147483648 ≤ k ∧ k < 2147483648) {ol : Nat} {F9 : Nat → Int64} (hO : h ol = some (klo1 G 1 F9)) (hO0 : gOw γ ol = (0, 0)) : kC l G m_L_freeByTrying 7 1 6 [.ref pl, .int (iI p), .int (iI k), .ref ol] h (kLw G pl ol γ h (Tfrees f p k) (Int32.toInt64 (iI (Tfrees f p k).2.1))) kNo := by
  refine kC_ofH hl rfl rfl (Nat.le_of_ble_eq_true rfl) (L := [some (.ref pl), some (.int (iI p)), some (.int (iI k)), some (.ref ol), none]) rfl ?_
  refine k_aload_n (pc1 := 1) dL_freeByTrying_0 rfl rfl ?_
  refine k_iconst (pc1 := 2) dL_freeByTrying_1 rfl ?_
  refine k_aload_n (pc1 := 3) dL_freeByTrying_2 rfl rfl ?_
  refine k_iload_n (pc1 := 4) dL_freeByTrying_3 rfl rfl ?_
  refine k_iload_n (pc1 := 5) dL_freeByTrying_4 rfl rfl ?_
  refine k_callV dL_freeByTrying_5 rfl lk_RL_101 o_X5_freeByTrying (as := [.int (iI p), .int (iI k)]) rfl rfl (rp_P hC) rfl rfl (w_X5_freeByTrying hl hC rp rk) (by decide) (by decide) (by decide) (by decide) (k8 rfl) (fun v h1 hv => ?_) (fun E h1 hv => ?_)
  · skip
    obtain ⟨t0, hv1, γ1, A1, hC1, hfr1⟩ := hv
    subst hv1
    obtain ⟨hO1, hO2⟩ := hfr1 ol _ hO hO0
    refine k_st (st' := [.int (iI ((Tfrees f p k).2.1)), .int (iI 0), .ref ol]) rfl ?_
    refine k_i2l (pc1 := 9) dL_freeByTrying_8 rfl ?_
    refine k_last (i := 0) (pc1 := 10) dL_freeByTrying_9 rfl hO1 (by decide) (by decide) (by decide) ?_
    obtain ⟨h2, eh2⟩ : ∃ z, z = kup h1 ol (klo1 G 1 (vp_updL F9 0 (Int32.toInt64 (iI ((Tfrees f p k).2.1))))) := ⟨_, rfl⟩
    refine k_hp (h' := h2) eh2.symm ?_
    have hT2 : h2 ol = some (klo1 G 1 (vp_updL F9 0 (Int32.toInt64 (iI ((Tfrees f p k).2.1))))) := by rw [eh2]; exact kup_same _ _ _
    have hG2 : ∀ b, b ≠ ol → h2 b = h1 b := fun b hb => by rw [eh2]; exact kup_ne hb
    clear eh2
    refine k_goto dL_freeByTrying_10 (tgt := 17) rfl ?_
    refine k_iconst (pc1 := 18) dL_freeByTrying_17 rfl ?_
    exact k_iret dL_freeByTrying_18 rfl rfl ⟨by rw [t0], ⟨_, hT2, fun _ => rfl⟩, γ1, A1, rp_un hC1 (fun b e hb h0 => (hG2 b (fun y => h0 (by rw [y]; exact hO2))).trans hb) (fun b hb => by rw [← hG2 b (fun y => by rw [y, hT2] at hb; cases hb)]; exact hb), hO2, fun b e g1 g2 g3 => ⟨(hG2 b g3).trans (hfr1 b e g1 g2).1, (hfr1 b e g1 g2).2⟩⟩
  · skip
    obtain ⟨t0, tE, γ1, A1, hC1, hfr1⟩ := hv
    obtain ⟨hO1, hO2⟩ := hfr1 ol _ hO hO0
    have hco : kCo f (Tfrees f p k) := co_frees p k
    have hz9 := (List.getElem?_eq_some_iff.mp tE).1
    change (Tfrees f p k).1.toNat < 2 at hz9
    have hz : (Tfrees f p k).1 = 1 := by have := hco.1; omega
    rw [hz] at tE
    have eE : "java/lang/IllegalArgumentException" = E := Option.some.inj tE
    subst eE
    refine kx_catch (name := "java/lang/IllegalArgumentException") [] (0, 10, 13, 13) [] rfl (fun z9 hz9 => nomatch hz9) (by decide) (by decide) (by decide) cl_RL_13 (by decide) (fun qx => ?_)
    refine k_astore (pc1 := 15) dL_freeByTrying_13 rfl (by decide) (k_loc (L' := [some (.ref pl), some (.int (iI p)), some (.int (iI k)), some (.ref ol), some (.ref qx)]) rfl ?_)
    refine k_iconst (pc1 := 16) dL_freeByTrying_15 rfl ?_
    exact k_iret dL_freeByTrying_16 rfl rfl ⟨by rw [hz], ⟨F9, hO1, fun y => absurd y (by omega)⟩, γ1, A1, hC1, hO2, fun b e g1 g2 _ => hfr1 b e g1 g2⟩
theorem w_L_longestFree {l : Launch} {G : kG} {h : kAH} (hl : l.stackTraces = false) {pl : Nat} {γ : kGh} {A : kAb} {f : Nat → Int} (hC : kRp G h pl γ A f) {p k : Int} (rp : -2147483648 ≤ p ∧ p < 2147483648) (rk : -2147483648 ≤ k ∧ k < 2147483648) {ol : Nat} {F9 : Nat → Int64} (hO : h ol = some (klo1 G 1 F9)) (hO0 : gOw γ ol = (0, 0)) : kC l G m_L_longestFree 6 1 6 [.ref pl, .int (iI p), .int (iI k), .ref ol] h (kLw G pl ol γ h (TlongestFree f p k) (Int32.toInt64 (iI (TlongestFree f p k).2.1))) kNo := by
  refine kC_ofH hl rfl rfl (Nat.le_of_ble_eq_true rfl) (L := [some (.ref pl), some (.int (iI p)), some (.int (iI k)), some (.ref ol), none]) rfl ?_
  refine k_aload_n (pc1 := 1) dL_longestFree_0 rfl rfl ?_
  refine k_iconst (pc1 := 2) dL_longestFree_1 rfl ?_
  refine k_aload_n (pc1 := 3) dL_longestFree_2 rfl rfl ?_
  refine k_iload_n (pc1 := 4) dL_longestFree_3 rfl rfl ?_
  refine k_iload_n (pc1 := 5) dL_longestFree_4 rfl rfl ?_
  refine k_callV dL_longestFree_5 rfl lk_RL_104 o_X5_longestFree (as := [.int (iI p), .int (iI k)]) rfl rfl (rp_P hC) rfl rfl (w_X5_longestFree hl hC rp rk) (by decide) (by decide) (by decide) (by decide) (k8 rfl) (fun v h1 hv => ?_) (fun E h1 hv => ?_)
  · skip
    obtain ⟨t0, hv1, γ1, A1, hC1, hfr1⟩ := hv
    subst hv1
    obtain ⟨hO1, hO2⟩ := hfr1 ol _ hO hO0
    refine k_st (st' := [.int (iI ((TlongestFree f p k).2.1)), .int (iI 0), .ref ol]) rfl ?_
    refine k_i2l (pc1 := 9) dL_longestFree_8 rfl ?_
    refine k_last (i := 0) (pc1 := 10) dL_longestFree_9 rfl hO1 (by decide) (by decide) (by decide) ?_
    obtain ⟨h2, eh2⟩ : ∃ z, z = kup h1 ol (klo1 G 1 (vp_updL F9 0 (Int32.toInt64 (iI ((TlongestFree f p k).2.1))))) := ⟨_, rfl⟩
    refine k_hp (h' := h2) eh2.symm ?_
    have hT2 : h2 ol = some (klo1 G 1 (vp_updL F9 0 (Int32.toInt64 (iI ((TlongestFree f p k).2.1))))) := by rw [eh2]; exact kup_same _ _ _
    have hG2 : ∀ b, b ≠ ol → h2 b = h1 b := fun b hb => by rw [eh2]; exact kup_ne hb
    clear eh2
    refine k_goto dL_longestFree_10 (tgt := 17) rfl ?_
    refine k_iconst (pc1 := 18) dL_longestFree_17 rfl ?_
    exact k_iret dL_longestFree_18 rfl rfl ⟨by rw [t0], ⟨_, hT2, fun _ => rfl⟩, γ1, A1, rp_un hC1 (fun b e hb h0 => (hG2 b (fun y => h0 (by rw [y]; exact hO2))).trans hb) (fun b hb => by rw [← hG2 b (fun y => by rw [y, hT2] at hb; cases hb)]; exact hb), hO2, fun b e g1 g2 g3 => ⟨(hG2 b g3).trans (hfr1 b e g1 g2).1, (hfr1 b e g1 g2).2⟩⟩
  · skip
    obtain ⟨t0, tE, γ1, A1, hC1, hfr1⟩ := hv
    obtain ⟨hO1, hO2⟩ := hfr1 ol _ hO hO0
    have hco : kCo f (TlongestFree f p k) := co_longestFree p k
    have hz9 := (List.getElem?_eq_some_iff.mp tE).1
    change (TlongestFree f p k).1.toNat < 2 at hz9
    have hz : (TlongestFree f p k).1 = 1 := by have := hco.1; omega
    rw [hz] at tE
    have eE : "java/lang/IllegalArgumentException" = E := Option.some.inj tE
    subst eE
    refine kx_catch (name := "java/lang/IllegalArgumentException") [] (0, 10, 13, 13) [] rfl (fun z9 hz9 => nomatch hz9) (by decide) (by decide) (by decide) cl_RL_13 (by decide) (fun qx => ?_)
    refine k_astore (pc1 := 15) dL_longestFree_13 rfl (by decide) (k_loc (L' := [some (.ref pl), some (.int (iI p)), some (.int (iI k)), some (.ref ol), some (.ref qx)]) rfl ?_)
    refine k_iconst (pc1 := 16) dL_longestFree_15 rfl ?_
    exact k_iret dL_longestFree_16 rfl rfl ⟨by rw [hz], ⟨F9, hO1, fun y => absurd y (by omega)⟩, γ1, A1, hC1, hO2, fun b e g1 g2 _ => hfr1 b e g1 g2⟩
theorem w_L_firstCommon {l : Launch} {G : kG} {h : kAH} (hl : l.stackTraces = false) {pl : Nat} {γ : kGh} {A : kAb} {f : Nat → Int} (hC : kRp G h pl γ A f) {a n k : Int} (ra : -2147483648 ≤ a ∧ a < 2147483648) (rn : -2147483648 ≤ n ∧ n < 2147483648) (rk : -2147483648 ≤ k ∧ k < 2147483648) {ol : Nat} {F9 : Nat → Int64} (hO : h ol = some (klo1 G 1 F9)) (hO0 : gOw γ ol = (0, 0)) : kC l G m_L_firstCommon 8 3 30 [.ref pl, .int (iI a), .int (iI n), .int (iI k), .ref ol] h (kLw G pl ol γ h (TfirstCommon f a n k) (Int32.toInt64 (iI (TfirstCommon f a n k).2.1))) kNo := by
  refine kC_ofH hl rfl rfl (Nat.le_of_ble_eq_true rfl) (L := [some (.ref pl), some (.int (iI a)), some (.int (iI n)), some (.int (iI k)), some (.ref ol), none]) rfl ?_
  refine k_aload (pc1 := 2) dL_firstCommon_0 rfl rfl ?_
  refine k_iconst (pc1 := 3) dL_firstCommon_2 rfl ?_
  refine k_aload_n (pc1 := 4) dL_firstCommon_3 rfl rfl ?_
  refine k_iload_n (pc1 := 5) dL_firstCommon_4 rfl rfl ?_
  refine k_iload_n (pc1 := 6) dL_firstCommon_5 rfl rfl ?_
  refine k_iload_n (pc1 := 7) dL_firstCommon_6 rfl rfl ?_
  refine k_callV dL_firstCommon_7 rfl lk_RL_107 o_X5_firstCommon (as := [.int (iI a), .int (iI n), .int (iI k)]) rfl rfl (rp_P hC) rfl rfl (w_X5_firstCommon hl hC ra rn rk) (by decide) (by decide) (by decide) (by decide) (k8 rfl) (fun v h1 hv => ?_) (fun E h1 hv => ?_)
  · skip
    obtain ⟨t0, hv1, γ1, A1, hC1, hfr1⟩ := hv
    subst hv1
    obtain ⟨hO1, hO2⟩ := hfr1 ol _ hO hO0
    refine k_st (st' := [.int (iI ((TfirstCommon f a n k).2.1)), .int (iI 0), .ref ol]) rfl ?_
    refine k_i2l (pc1 := 11) dL_firstCommon_10 rfl ?_
    refine k_last (i := 0) (pc1 := 12) dL_firstCommon_11 rfl hO1 (by decide) (by decide) (by decide) ?_
    obtain ⟨h2, eh2⟩ : ∃ z, z = kup h1 ol (klo1 G 1 (vp_updL F9 0 (Int32.toInt64 (iI ((TfirstCommon f a n k).2.1))))) := ⟨_, rfl⟩
    refine k_hp (h' := h2) eh2.symm ?_
    have hT2 : h2 ol = some (klo1 G 1 (vp_updL F9 0 (Int32.toInt64 (iI ((TfirstCommon f a n k).2.1))))) := by rw [eh2]; exact kup_same _ _ _
    have hG2 : ∀ b, b ≠ ol → h2 b = h1 b := fun b hb => by rw [eh2]; exact kup_ne hb
    clear eh2
    refine k_goto dL_firstCommon_12 (tgt := 23) rfl ?_
    refine k_iconst (pc1 := 24) dL_firstCommon_23 rfl ?_
    exact k_iret dL_firstCommon_24 rfl rfl ⟨by rw [t0], ⟨_, hT2, fun _ => rfl⟩, γ1, A1, rp_un hC1 (fun b e hb h0 => (hG2 b (fun y => h0 (by rw [y]; exact hO2))).trans hb) (fun b hb => by rw [← hG2 b (fun y => by rw [y, hT2] at hb; cases hb)]; exact hb), hO2, fun b e g1 g2 g3 => ⟨(hG2 b g3).trans (hfr1 b e g1 g2).1, (hfr1 b e g1 g2).2⟩⟩
  · skip
    obtain ⟨t0, tE, γ1, A1, hC1, hfr1⟩ := hv
    obtain ⟨hO1, hO2⟩ := hfr1 ol _ hO hO0
    have hco : kCo f (TfirstCommon f a n k) := co_firstCommon a n k
    have hz9 := (List.getElem?_eq_some_iff.mp tE).1
    change (TfirstCommon f a n k).1.toNat < 3 at hz9
    have hz : (TfirstCommon f a n k).1 = 1 ∨ (TfirstCommon f a n k).1 = 2 := by have := hco.1; omega
    rcases hz with hz | hz
    · skip
      rw [hz] at tE
      have eE : "java/lang/IllegalArgumentException" = E := Option.some.inj tE
      subst eE
      refine kx_catch (name := "java/lang/IllegalArgumentException") [] (0, 12, 15, 13) [(0, 12, 19, 36)] rfl (fun z9 hz9 => nomatch hz9) (by decide) (by decide) (by decide) cl_RL_13 (by decide) (fun qx => ?_)
      refine k_astore (pc1 := 17) dL_firstCommon_15 rfl (by decide) (k_loc (L' := [some (.ref pl), some (.int (iI a)), some (.int (iI n)), some (.int (iI k)), some (.ref ol), some (.ref qx)]) rfl ?_)
      refine k_iconst (pc1 := 18) dL_firstCommon_17 rfl ?_
      exact k_iret dL_firstCommon_18 rfl rfl ⟨by rw [hz], ⟨F9, hO1, fun y => absurd y (by omega)⟩, γ1, A1, hC1, hO2, fun b e g1 g2 _ => hfr1 b e g1 g2⟩
    · skip
      rw [hz] at tE
      have eE : "java/util/NoSuchElementException" = E := Option.some.inj tE
      subst eE
      refine kx_catch (name := "java/util/NoSuchElementException") [(0, 12, 15, 13)] (0, 12, 19, 36) [] rfl (List.forall_mem_cons.mpr ⟨⟨by decide, _, cl_RL_13, by decide⟩, (fun z9 hz9 => nomatch hz9)⟩) (by decide) (by decide) (by decide) cl_RL_36 (by decide) (fun qx => ?_)
      refine k_astore (pc1 := 21) dL_firstCommon_19 rfl (by decide) (k_loc (L' := [some (.ref pl), some (.int (iI a)), some (.int (iI n)), some (.int (iI k)), some (.ref ol), some (.ref qx)]) rfl ?_)
      refine k_iconst (pc1 := 22) dL_firstCommon_21 rfl ?_
      exact k_iret dL_firstCommon_22 rfl rfl ⟨by rw [hz], ⟨F9, hO1, fun y => absurd y (by omega)⟩, γ1, A1, hC1, hO2, fun b e g1 g2 _ => hfr1 b e g1 g2⟩
theorem w_L_commonCount {l : Launch} {G : kG} {h : kAH} (hl : l.stackTraces = false) {pl : Nat} {γ : kGh} {A : kAb} {f : Nat → Int} (hC : kRp G h pl γ A f) {a n k : Int} (ra : -2147483648 ≤ a ∧ a < 2147483648) (rn : -2147483648 ≤ n ∧ n < 2147483648) (rk : -2147483648 ≤ k ∧ k < 2147483648) {ol : Nat} {F9 : Nat → Int64} (hO : h ol = some (klo1 G 1 F9)) (hO0 : gOw γ ol = (0, 0)) : kC l G m_L_commonCount 8 3 30 [.ref pl, .int (iI a), .int (iI n), .int (iI k), .ref ol] h (kLw G pl ol γ h (TcommonCount f a n k) (Int32.toInt64 (iI (TcommonCount f a n k).2.1))) kNo := by
  refine kC_ofH hl rfl rfl (Nat.le_of_ble_eq_true rfl) (L := [some (.ref pl), some (.int (iI a)), some (.int (iI n)), some (.int (iI k)), some (.ref ol), none]) rfl ?_
  refine k_aload (pc1 := 2) dL_commonCount_0 rfl rfl ?_
  refine k_iconst (pc1 := 3) dL_commonCount_2 rfl ?_
  refine k_aload_n (pc1 := 4) dL_commonCount_3 rfl rfl ?_
  refine k_iload_n (pc1 := 5) dL_commonCount_4 rfl rfl ?_
  refine k_iload_n (pc1 := 6) dL_commonCount_5 rfl rfl ?_
  refine k_iload_n (pc1 := 7) dL_commonCount_6 rfl rfl ?_
  refine k_callV dL_commonCount_7 rfl lk_RL_110 o_X5_commonCount (as := [.int (iI a), .int (iI n), .int (iI k)]) rfl rfl (rp_P hC) rfl rfl (w_X5_commonCount hl hC ra rn rk) (by decide) (by decide) (by decide) (by decide) (k8 rfl) (fun v h1 hv => ?_) (fun E h1 hv => ?_)
  · skip
    obtain ⟨t0, hv1, γ1, A1, hC1, hfr1⟩ := hv
    subst hv1
    obtain ⟨hO1, hO2⟩ := hfr1 ol _ hO hO0
    refine k_st (st' := [.int (iI ((TcommonCount f a n k).2.1)), .int (iI 0), .ref ol]) rfl ?_
    refine k_i2l (pc1 := 11) dL_commonCount_10 rfl ?_
    refine k_last (i := 0) (pc1 := 12) dL_commonCount_11 rfl hO1 (by decide) (by decide) (by decide) ?_
    obtain ⟨h2, eh2⟩ : ∃ z, z = kup h1 ol (klo1 G 1 (vp_updL F9 0 (Int32.toInt64 (iI ((TcommonCount f a n k).2.1))))) := ⟨_, rfl⟩
    refine k_hp (h' := h2) eh2.symm ?_
    have hT2 : h2 ol = some (klo1 G 1 (vp_updL F9 0 (Int32.toInt64 (iI ((TcommonCount f a n k).2.1))))) := by rw [eh2]; exact kup_same _ _ _
    have hG2 : ∀ b, b ≠ ol → h2 b = h1 b := fun b hb => by rw [eh2]; exact kup_ne hb
    clear eh2
    refine k_goto dL_commonCount_12 (tgt := 19) rfl ?_
    refine k_iconst (pc1 := 20) dL_commonCount_19 rfl ?_
    exact k_iret dL_commonCount_20 rfl rfl ⟨by rw [t0], ⟨_, hT2, fun _ => rfl⟩, γ1, A1, rp_un hC1 (fun b e hb h0 => (hG2 b (fun y => h0 (by rw [y]; exact hO2))).trans hb) (fun b hb => by rw [← hG2 b (fun y => by rw [y, hT2] at hb; cases hb)]; exact hb), hO2, fun b e g1 g2 g3 => ⟨(hG2 b g3).trans (hfr1 b e g1 g2).1, (hfr1 b e g1 g2).2⟩⟩
  · skip
    obtain ⟨t0, tE, γ1, A1, hC1, hfr1⟩ := hv
    obtain ⟨hO1, hO2⟩ := hfr1 ol _ hO hO0
    have hco : kCo f (TcommonCount f a n k) := co_commonCount a n k
    have hz9 := (List.getElem?_eq_some_iff.mp tE).1
    change (TcommonCount f a n k).1.toNat < 2 at hz9
    have hz : (TcommonCount f a n k).1 = 1 := by have := hco.1; omega
    rw [hz] at tE
    have eE : "java/lang/IllegalArgumentException" = E := Option.some.inj tE
    subst eE
    refine kx_catch (name := "java/lang/IllegalArgumentException") [] (0, 12, 15, 13) [] rfl (fun z9 hz9 => nomatch hz9) (by decide) (by decide) (by decide) cl_RL_13 (by decide) (fun qx => ?_)
    refine k_astore (pc1 := 17) dL_commonCount_15 rfl (by decide) (k_loc (L' := [some (.ref pl), some (.int (iI a)), some (.int (iI n)), some (.int (iI k)), some (.ref ol), some (.ref qx)]) rfl ?_)
    refine k_iconst (pc1 := 18) dL_commonCount_17 rfl ?_
    exact k_iret dL_commonCount_18 rfl rfl ⟨by rw [hz], ⟨F9, hO1, fun y => absurd y (by omega)⟩, γ1, A1, hC1, hO2, fun b e g1 g2 _ => hfr1 b e g1 g2⟩
theorem w_L_roomFor {l : Launch} {G : kG} {h : kAH} (hl : l.stackTraces = false) {pl : Nat} {γ : kGh} {A : kAb} {f : Nat → Int} (hC : kRp G h pl γ A f) {a n k t : Int} (ra : -2147483648 ≤ a ∧ a < 2147483648) (rn : -2147483648 ≤ n ∧ n < 2147483648) (rk : -2147483648 ≤ k ∧ k < 2147483648) (rt : -2147483648 ≤ t ∧ t < 2147483648) {ol : Nat} {F9 : Nat → Int64} (hO : h ol = some (klo1 G 1 F9)) (hO0 : gOw γ ol = (0, 0)) : kC l G m_L_roomFor 8 3 30 [.ref pl, .int (iI a), .int (iI n), .int (iI k), .int (iI t), .ref ol] h (kLw G pl ol γ h (TroomFor f a n k t) (Int32.toInt64 (iI (TroomFor f a n k t).2.1))) kNo := by
  refine kC_ofH hl rfl rfl (Nat.le_of_ble_eq_true rfl) (L := [some (.ref pl), some (.int (iI a)), some (.int (iI n)), some (.int (iI k)), some (.int (iI t)), some (.ref ol), none]) rfl ?_
  refine k_aload (pc1 := 2) dL_roomFor_0 rfl rfl ?_
  refine k_iconst (pc1 := 3) dL_roomFor_2 rfl ?_
  refine k_aload_n (pc1 := 4) dL_roomFor_3 rfl rfl ?_
  refine k_iload_n (pc1 := 5) dL_roomFor_4 rfl rfl ?_
  refine k_iload_n (pc1 := 6) dL_roomFor_5 rfl rfl ?_
  refine k_iload_n (pc1 := 7) dL_roomFor_6 rfl rfl ?_
  refine k_iload (pc1 := 9) dL_roomFor_7 rfl rfl ?_
  refine k_callV dL_roomFor_9 rfl lk_RL_113 o_X5_roomFor (as := [.int (iI a), .int (iI n), .int (iI k), .int (iI t)]) rfl rfl (rp_P hC) rfl rfl (w_X5_roomFor hl hC ra rn rk rt) (by decide) (by decide) (by decide) (by decide) (k8 rfl) (fun v h1 hv => ?_) (fun E h1 hv => ?_)
  · skip
    obtain ⟨t0, hv1, γ1, A1, hC1, hfr1⟩ := hv
    subst hv1
    obtain ⟨hO1, hO2⟩ := hfr1 ol _ hO hO0
    refine k_st (st' := [.int (iI ((TroomFor f a n k t).2.1)), .int (iI 0), .ref ol]) rfl ?_
    refine k_i2l (pc1 := 13) dL_roomFor_12 rfl ?_
    refine k_last (i := 0) (pc1 := 14) dL_roomFor_13 rfl hO1 (by decide) (by decide) (by decide) ?_
    obtain ⟨h2, eh2⟩ : ∃ z, z = kup h1 ol (klo1 G 1 (vp_updL F9 0 (Int32.toInt64 (iI ((TroomFor f a n k t).2.1))))) := ⟨_, rfl⟩
    refine k_hp (h' := h2) eh2.symm ?_
    have hT2 : h2 ol = some (klo1 G 1 (vp_updL F9 0 (Int32.toInt64 (iI ((TroomFor f a n k t).2.1))))) := by rw [eh2]; exact kup_same _ _ _
    have hG2 : ∀ b, b ≠ ol → h2 b = h1 b := fun b hb => by rw [eh2]; exact kup_ne hb
    clear eh2
    refine k_goto dL_roomFor_14 (tgt := 25) rfl ?_
    refine k_iconst (pc1 := 26) dL_roomFor_25 rfl ?_
    exact k_iret dL_roomFor_26 rfl rfl ⟨by rw [t0], ⟨_, hT2, fun _ => rfl⟩, γ1, A1, rp_un hC1 (fun b e hb h0 => (hG2 b (fun y => h0 (by rw [y]; exact hO2))).trans hb) (fun b hb => by rw [← hG2 b (fun y => by rw [y, hT2] at hb; cases hb)]; exact hb), hO2, fun b e g1 g2 g3 => ⟨(hG2 b g3).trans (hfr1 b e g1 g2).1, (hfr1 b e g1 g2).2⟩⟩
  · skip
    obtain ⟨t0, tE, γ1, A1, hC1, hfr1⟩ := hv
    obtain ⟨hO1, hO2⟩ := hfr1 ol _ hO hO0
    have hco : kCo f (TroomFor f a n k t) := co_roomFor a n k t
    have hz9 := (List.getElem?_eq_some_iff.mp tE).1
    change (TroomFor f a n k t).1.toNat < 3 at hz9
    have hz : (TroomFor f a n k t).1 = 1 ∨ (TroomFor f a n k t).1 = 2 := by have := hco.1; omega
    rcases hz with hz | hz
    · skip
      rw [hz] at tE
      have eE : "java/lang/IllegalArgumentException" = E := Option.some.inj tE
      subst eE
      refine kx_catch (name := "java/lang/IllegalArgumentException") [] (0, 14, 17, 13) [(0, 14, 21, 36)] rfl (fun z9 hz9 => nomatch hz9) (by decide) (by decide) (by decide) cl_RL_13 (by decide) (fun qx => ?_)
      refine k_astore (pc1 := 19) dL_roomFor_17 rfl (by decide) (k_loc (L' := [some (.ref pl), some (.int (iI a)), some (.int (iI n)), some (.int (iI k)), some (.int (iI t)), some (.ref ol), some (.ref qx)]) rfl ?_)
      refine k_iconst (pc1 := 20) dL_roomFor_19 rfl ?_
      exact k_iret dL_roomFor_20 rfl rfl ⟨by rw [hz], ⟨F9, hO1, fun y => absurd y (by omega)⟩, γ1, A1, hC1, hO2, fun b e g1 g2 _ => hfr1 b e g1 g2⟩
    · skip
      rw [hz] at tE
      have eE : "java/util/NoSuchElementException" = E := Option.some.inj tE
      subst eE
      refine kx_catch (name := "java/util/NoSuchElementException") [(0, 14, 17, 13)] (0, 14, 21, 36) [] rfl (List.forall_mem_cons.mpr ⟨⟨by decide, _, cl_RL_13, by decide⟩, (fun z9 hz9 => nomatch hz9)⟩) (by decide) (by decide) (by decide) cl_RL_36 (by decide) (fun qx => ?_)
      refine k_astore (pc1 := 23) dL_roomFor_21 rfl (by decide) (k_loc (L' := [some (.ref pl), some (.int (iI a)), some (.int (iI n)), some (.int (iI k)), some (.int (iI t)), some (.ref ol), some (.ref qx)]) rfl ?_)
      refine k_iconst (pc1 := 24) dL_roomFor_23 rfl ?_
      exact k_iret dL_roomFor_24 rfl rfl ⟨by rw [hz], ⟨F9, hO1, fun y => absurd y (by omega)⟩, γ1, A1, hC1, hO2, fun b e g1 g2 _ => hfr1 b e g1 g2⟩
theorem w_L_usedTimes {l : Launch} {G : kG} {h : kAH} (hl : l.stackTraces = false) {pl : Nat} {γ : kGh} {A : kAb} {f : Nat → Int} (hC : kRp G h pl γ A f) {rm k : Int} (rrm : -2147483648 ≤ rm ∧ rm < 2147483648) (rk : -2147483648 ≤ k ∧ k < 2147483648) {ol : Nat} {F9 : Nat → Int64} (hO : h ol = some (klo1 G 1 F9)) (hO0 : gOw γ ol = (0, 0)) : kC l G m_L_usedTimes 5 1 6 [.ref pl, .int (iI rm), .int (iI k), .ref ol] h (kLw G pl ol γ h (TusedTimes f rm k) (Int32.toInt64 (iI (TusedTimes f rm k).2.1))) kNo := by
  refine kC_ofH hl rfl rfl (Nat.le_of_ble_eq_true rfl) (L := [some (.ref pl), some (.int (iI rm)), some (.int (iI k)), some (.ref ol), none]) rfl ?_
  refine k_aload_n (pc1 := 1) dL_usedTimes_0 rfl rfl ?_
  refine k_iconst (pc1 := 2) dL_usedTimes_1 rfl ?_
  refine k_aload_n (pc1 := 3) dL_usedTimes_2 rfl rfl ?_
  refine k_iload_n (pc1 := 4) dL_usedTimes_3 rfl rfl ?_
  refine k_iload_n (pc1 := 5) dL_usedTimes_4 rfl rfl ?_
  refine k_callV dL_usedTimes_5 rfl lk_RL_116 o_X5_usedTimes (as := [.int (iI rm), .int (iI k)]) rfl rfl (rp_P hC) rfl rfl (w_X5_usedTimes hl hC rrm rk) (by decide) (by decide) (by decide) (by decide) (k8 rfl) (fun v h1 hv => ?_) (fun E h1 hv => ?_)
  · skip
    obtain ⟨t0, hv1, γ1, A1, hC1, hfr1⟩ := hv
    subst hv1
    obtain ⟨hO1, hO2⟩ := hfr1 ol _ hO hO0
    refine k_st (st' := [.int (iI ((TusedTimes f rm k).2.1)), .int (iI 0), .ref ol]) rfl ?_
    refine k_i2l (pc1 := 9) dL_usedTimes_8 rfl ?_
    refine k_last (i := 0) (pc1 := 10) dL_usedTimes_9 rfl hO1 (by decide) (by decide) (by decide) ?_
    obtain ⟨h2, eh2⟩ : ∃ z, z = kup h1 ol (klo1 G 1 (vp_updL F9 0 (Int32.toInt64 (iI ((TusedTimes f rm k).2.1))))) := ⟨_, rfl⟩
    refine k_hp (h' := h2) eh2.symm ?_
    have hT2 : h2 ol = some (klo1 G 1 (vp_updL F9 0 (Int32.toInt64 (iI ((TusedTimes f rm k).2.1))))) := by rw [eh2]; exact kup_same _ _ _
    have hG2 : ∀ b, b ≠ ol → h2 b = h1 b := fun b hb => by rw [eh2]; exact kup_ne hb
    clear eh2
    refine k_goto dL_usedTimes_10 (tgt := 17) rfl ?_
    refine k_iconst (pc1 := 18) dL_usedTimes_17 rfl ?_
    exact k_iret dL_usedTimes_18 rfl rfl ⟨by rw [t0], ⟨_, hT2, fun _ => rfl⟩, γ1, A1, rp_un hC1 (fun b e hb h0 => (hG2 b (fun y => h0 (by rw [y]; exact hO2))).trans hb) (fun b hb => by rw [← hG2 b (fun y => by rw [y, hT2] at hb; cases hb)]; exact hb), hO2, fun b e g1 g2 g3 => ⟨(hG2 b g3).trans (hfr1 b e g1 g2).1, (hfr1 b e g1 g2).2⟩⟩
  · skip
    obtain ⟨t0, tE, γ1, A1, hC1, hfr1⟩ := hv
    obtain ⟨hO1, hO2⟩ := hfr1 ol _ hO hO0
    have hco : kCo f (TusedTimes f rm k) := co_usedTimes rm k
    have hz9 := (List.getElem?_eq_some_iff.mp tE).1
    change (TusedTimes f rm k).1.toNat < 2 at hz9
    have hz : (TusedTimes f rm k).1 = 1 := by have := hco.1; omega
    rw [hz] at tE
    have eE : "java/lang/IllegalArgumentException" = E := Option.some.inj tE
    subst eE
    refine kx_catch (name := "java/lang/IllegalArgumentException") [] (0, 10, 13, 13) [] rfl (fun z9 hz9 => nomatch hz9) (by decide) (by decide) (by decide) cl_RL_13 (by decide) (fun qx => ?_)
    refine k_astore (pc1 := 15) dL_usedTimes_13 rfl (by decide) (k_loc (L' := [some (.ref pl), some (.int (iI rm)), some (.int (iI k)), some (.ref ol), some (.ref qx)]) rfl ?_)
    refine k_iconst (pc1 := 16) dL_usedTimes_15 rfl ?_
    exact k_iret dL_usedTimes_16 rfl rfl ⟨by rw [hz], ⟨F9, hO1, fun y => absurd y (by omega)⟩, γ1, A1, hC1, hO2, fun b e g1 g2 _ => hfr1 b e g1 g2⟩
theorem w_L_walks {l : Launch} {G : kG} {h : kAH} (hl : l.stackTraces = false) {pl : Nat} {γ : kGh} {A : kAb} {f : Nat → Int} (hC : kRp G h pl γ A f) {p k : Int} (rp : -2147483648 ≤ p ∧ p < 2147483648) (rk : -2147483648 ≤ k ∧ k < 2147483648) {ol : Nat} {F9 : Nat → Int64} (hO : h ol = some (klo1 G 1 F9)) (hO0 : gOw γ ol = (0, 0)) : kC l G m_L_walks 5 1 6 [.ref pl, .int (iI p), .int (iI k), .ref ol] h (kLw G pl ol γ h (Twalks f p k) (Int32.toInt64 (iI (Twalks f p k).2.1))) kNo := by
  refine kC_ofH hl rfl rfl (Nat.le_of_ble_eq_true rfl) (L := [some (.ref pl), some (.int (iI p)), some (.int (iI k)), some (.ref ol), none]) rfl ?_
  refine k_aload_n (pc1 := 1) dL_walks_0 rfl rfl ?_
  refine k_iconst (pc1 := 2) dL_walks_1 rfl ?_
  refine k_aload_n (pc1 := 3) dL_walks_2 rfl rfl ?_
  refine k_iload_n (pc1 := 4) dL_walks_3 rfl rfl ?_
  refine k_iload_n (pc1 := 5) dL_walks_4 rfl rfl ?_
  refine k_callV dL_walks_5 rfl lk_RL_119 o_X5_walks (as := [.int (iI p), .int (iI k)]) rfl rfl (rp_P hC) rfl rfl (w_X5_walks hl hC rp rk) (by decide) (by decide) (by decide) (by decide) (k8 rfl) (fun v h1 hv => ?_) (fun E h1 hv => ?_)
  · skip
    obtain ⟨t0, hv1, γ1, A1, hC1, hfr1⟩ := hv
    subst hv1
    obtain ⟨hO1, hO2⟩ := hfr1 ol _ hO hO0
    refine k_st (st' := [.int (iI ((Twalks f p k).2.1)), .int (iI 0), .ref ol]) rfl ?_
    refine k_i2l (pc1 := 9) dL_walks_8 rfl ?_
    refine k_last (i := 0) (pc1 := 10) dL_walks_9 rfl hO1 (by decide) (by decide) (by decide) ?_
    obtain ⟨h2, eh2⟩ : ∃ z, z = kup h1 ol (klo1 G 1 (vp_updL F9 0 (Int32.toInt64 (iI ((Twalks f p k).2.1))))) := ⟨_, rfl⟩
    refine k_hp (h' := h2) eh2.symm ?_
    have hT2 : h2 ol = some (klo1 G 1 (vp_updL F9 0 (Int32.toInt64 (iI ((Twalks f p k).2.1))))) := by rw [eh2]; exact kup_same _ _ _
    have hG2 : ∀ b, b ≠ ol → h2 b = h1 b := fun b hb => by rw [eh2]; exact kup_ne hb
    clear eh2
    refine k_goto dL_walks_10 (tgt := 17) rfl ?_
    refine k_iconst (pc1 := 18) dL_walks_17 rfl ?_
    exact k_iret dL_walks_18 rfl rfl ⟨by rw [t0], ⟨_, hT2, fun _ => rfl⟩, γ1, A1, rp_un hC1 (fun b e hb h0 => (hG2 b (fun y => h0 (by rw [y]; exact hO2))).trans hb) (fun b hb => by rw [← hG2 b (fun y => by rw [y, hT2] at hb; cases hb)]; exact hb), hO2, fun b e g1 g2 g3 => ⟨(hG2 b g3).trans (hfr1 b e g1 g2).1, (hfr1 b e g1 g2).2⟩⟩
  · skip
    obtain ⟨t0, tE, γ1, A1, hC1, hfr1⟩ := hv
    obtain ⟨hO1, hO2⟩ := hfr1 ol _ hO hO0
    have hco : kCo f (Twalks f p k) := co_walks p k
    have hz9 := (List.getElem?_eq_some_iff.mp tE).1
    change (Twalks f p k).1.toNat < 2 at hz9
    have hz : (Twalks f p k).1 = 1 := by have := hco.1; omega
    rw [hz] at tE
    have eE : "java/lang/IllegalArgumentException" = E := Option.some.inj tE
    subst eE
    refine kx_catch (name := "java/lang/IllegalArgumentException") [] (0, 10, 13, 13) [] rfl (fun z9 hz9 => nomatch hz9) (by decide) (by decide) (by decide) cl_RL_13 (by decide) (fun qx => ?_)
    refine k_astore (pc1 := 15) dL_walks_13 rfl (by decide) (k_loc (L' := [some (.ref pl), some (.int (iI p)), some (.int (iI k)), some (.ref ol), some (.ref qx)]) rfl ?_)
    refine k_iconst (pc1 := 16) dL_walks_15 rfl ?_
    exact k_iret dL_walks_16 rfl rfl ⟨by rw [hz], ⟨F9, hO1, fun y => absurd y (by omega)⟩, γ1, A1, hC1, hO2, fun b e g1 g2 _ => hfr1 b e g1 g2⟩
