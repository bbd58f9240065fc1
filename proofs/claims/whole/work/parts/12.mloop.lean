/-! ===== the reference: its loops, walked ===== -/
theorem w_X6_at {l : Launch} {G : kG} {h : kAH} {o g r : Nat} {c wm wd : Int} {f : Nat → Int} (hl : l.stackTraces = false) (hM : kMd G h o g r c wm wd f) (n : Int) (hW : kWf f) (rn : -2147483648 ≤ n ∧ n < 2147483648) : kP l G m_X6_at 2 [.ref o, .int (iI n)] h (.int (iI (atF f n))) := by
  have h8 := kWf_cnt hW
  have h9 := kWf_nxt hW
  refine kC_of hl rfl rfl (Nat.le_of_ble_eq_true rfl) (L := [some (.ref o), some (.int (iI n)), none]) rfl ?_
  refine k_iconst (pc1 := 1) dX6_at_0 rfl ?_
  refine k_istore_n (pc1 := 2) dX6_at_1 rfl (by decide) (k_loc (L' := [some (.ref o), some (.int (iI n)), some (.int (iI 0))]) rfl ?_)
  have hloop2 : ∀ (zz : Nat) (i : Nat), zz = (f 1 - ((i : Nat) : Int)).toNat → (((i : Nat) : Int) ≤ f 1) → (∀ j : Nat, j < i → ¬ (oF f (j : Int) 0 = n)) → kW l G m_X6_at 2 (kPq (.int (iI (atF f n))) h) kNo 0 0 2 [some (.ref o), some (.int (iI n)), some (.int (iI ((i : Nat) : Int)))] [] h := by
    intro zz
    induction zz using Nat.strongRecOn with
    | ind zz ih2 =>
    intro i hr2 hi hJ
    refine k_iload_n (pc1 := 3) dX6_at_2 rfl rfl ?_
    refine k_aload_n (pc1 := 4) dX6_at_3 rfl rfl ?_
    refine k_get (pc1 := 7) dX6_at_4 rfl fd_RX6_7 hM.1 (v := .ref g) rfl ?_
    refine k_iconst (pc1 := 8) dX6_at_7 rfl ?_
    refine k_iald (i := 1) (f := f) (pc1 := 9) dX6_at_8 rfl hM.2.1 (N := 380) (by omega) (by omega) (by decide) (k_val (v' := .int (iI (f 1))) rfl ?_)
    refine k_icmp_ge (a := ((i : Nat) : Int)) (b := (f 1)) dX6_at_9 rfl (tgt := 30) rfl (by omega) (by omega) (fun c9 : (f 1) ≤ ((i : Nat) : Int) => ?_) (fun c9 : ((i : Nat) : Int) < (f 1) => ?_)
    · skip
      refine k_iconst (pc1 := 31) dX6_at_30 rfl ?_
      exact k_iret dX6_at_31 rfl rfl (kret (kls_none (fun j hj => hJ j (by omega))).symm _)
    · skip
      have hm := kWf_m hW (m := ((i : Nat) : Int)) (by omega) (by omega)
      refine k_aload_n (pc1 := 13) dX6_at_12 rfl rfl ?_
      refine k_iload_n (pc1 := 14) dX6_at_13 rfl rfl ?_
      refine k_iconst (pc1 := 15) dX6_at_14 rfl ?_
      refine k_callVP dX6_at_15 rfl lk_RX6_37 o_X6_of (w_X6_of hl hM ((i : Nat) : Int) 0 (by omega) (by omega)) (as := [.int (iI ((i : Nat) : Int)), .int (iI 0)]) hM.1 rfl rfl rfl rfl (by decide) (by decide) (k8 rfl) ?_
      refine k_iload_n (pc1 := 19) dX6_at_18 rfl rfl ?_
      refine k_icmp_ne (a := (oF f ((i : Nat) : Int) 0)) (b := n) dX6_at_19 rfl (tgt := 24) rfl (by omega) (by omega) (fun c19 : (oF f ((i : Nat) : Int) 0) ≠ n => ?_) (fun c19 : (oF f ((i : Nat) : Int) 0) = n => ?_)
      · skip
        refine k_iinc (a := ((i : Nat) : Int)) (pc1 := 27) dX6_at_24 rfl rfl (by decide) (k_loc (L' := [some (.ref o), some (.int (iI n)), some (.int (iI (((i : Nat) : Int) + 1)))]) rfl ?_)
        refine k_goto dX6_at_27 (tgt := 2) rfl ?_
        exact ih2 _ (by omega) (i + 1) rfl (by omega) (fun j hj => if e : j = i then e ▸ c19 else hJ j (by omega))
      · skip
        refine k_iload_n (pc1 := 23) dX6_at_22 rfl rfl ?_
        exact k_iret dX6_at_23 rfl rfl (kret (kls_at (i := i) (by omega) c19 hJ).symm _)
  exact hloop2 _ 0 rfl (by omega) (fun j hj => absurd hj (by omega))
theorem w_X6_people {l : Launch} {G : kG} {h : kAH} {o g r : Nat} {c wm wd : Int} {f : Nat → Int} (hl : l.stackTraces = false) (hM : kMd G h o g r c wm wd f) (m : Int) (hW : kWf f) (hm0 : 0 ≤ m) (hm1 : m < f 1) : kP l G m_X6_people 3 [.ref o, .int (iI m)] h (.int (iI (((ppF f m) : Nat) : Int))) := by
  refine kC_of hl rfl rfl (Nat.le_of_ble_eq_true rfl) (L := [some (.ref o), some (.int (iI m)), none, none]) rfl ?_
  refine k_iconst (pc1 := 1) dX6_people_0 rfl ?_
  refine k_istore_n (pc1 := 2) dX6_people_1 rfl (by decide) (k_loc (L' := [some (.ref o), some (.int (iI m)), some (.int (iI 0)), none]) rfl ?_)
  refine k_iconst (pc1 := 3) dX6_people_2 rfl ?_
  refine k_istore_n (pc1 := 4) dX6_people_3 rfl (by decide) (k_loc (L' := [some (.ref o), some (.int (iI m)), some (.int (iI 0)), some (.int (iI 0))]) rfl ?_)
  have hloop4 : ∀ (zz : Nat) (i : Nat), zz = 6 - i → (i ≤ 6) → kW l G m_X6_people 3 (kPq (.int (iI (((ppF f m) : Nat) : Int))) h) kNo 0 0 4 [some (.ref o), some (.int (iI m)), some (.int (iI (((kmk (fun p => exF f m (p : Int)) i) : Nat) : Int))), some (.int (iI ((i : Nat) : Int)))] [] h := by
    intro zz
    induction zz using Nat.strongRecOn with
    | ind zz ih4 =>
    intro i hr4 hi
    refine k_iload_n (pc1 := 5) dX6_people_4 rfl rfl ?_
    refine k_bipush 6 (pc1 := 7) dX6_people_5 rfl (by decide) ?_
    refine k_icmp_ge (a := ((i : Nat) : Int)) (b := 6) dX6_people_7 rfl (tgt := 35) rfl (by omega) (by decide) (fun c7 : 6 ≤ ((i : Nat) : Int) => ?_) (fun c7 : ((i : Nat) : Int) < 6 => ?_)
    · skip
      refine k_iload_n (pc1 := 36) dX6_people_35 rfl rfl ?_
      have e : i = 6 := by omega
      subst e
      exact k_iret dX6_people_36 rfl rfl (kret rfl _)
    · skip
      refine k_iload_n (pc1 := 11) dX6_people_10 rfl rfl ?_
      refine k_aload_n (pc1 := 12) dX6_people_11 rfl rfl ?_
      refine k_iload_n (pc1 := 13) dX6_people_12 rfl rfl ?_
      refine k_iload_n (pc1 := 14) dX6_people_13 rfl rfl ?_
      refine k_callVP dX6_people_14 rfl lk_RX6_41 o_X6_isExpected (w_X6_isExpected hl hM m ((i : Nat) : Int) hW (by omega) (by omega) (by omega) (by omega)) (as := [.int (iI m), .int (iI ((i : Nat) : Int))]) hM.1 rfl rfl rfl rfl (by decide) (by decide) (k8 rfl) ?_
      refine k_if_eq (a := kB (exF f m ((i : Nat) : Int))) dX6_people_17 rfl (tgt := 26) rfl (kB_r _) (fun c17 : kB (exF f m ((i : Nat) : Int)) = 0 => ?_) (fun c17 : kB (exF f m ((i : Nat) : Int)) ≠ 0 => ?_)
      · replace c17 : ¬(exF f m ((i : Nat) : Int)) := kB_z.mp c17
        refine k_iconst (pc1 := 27) dX6_people_26 rfl ?_
        refine k_ior (pc1 := 28) dX6_people_27 rfl (k_val (v' := .int (iI ((((kmk (fun p => exF f m (p : Int)) i) ||| 0) : Nat) : Int))) (congrArg Value.int iI_or) ?_)
        refine k_istore_n (pc1 := 29) dX6_people_28 rfl (by decide) (k_loc (L' := [some (.ref o), some (.int (iI m)), some (.int (iI ((((kmk (fun p => exF f m (p : Int)) i) ||| 0) : Nat) : Int))), some (.int (iI ((i : Nat) : Int)))]) rfl ?_)
        refine k_iinc (a := ((i : Nat) : Int)) (pc1 := 32) dX6_people_29 rfl rfl (by decide) (k_loc (L' := [some (.ref o), some (.int (iI m)), some (.int (iI ((((kmk (fun p => exF f m (p : Int)) i) ||| 0) : Nat) : Int))), some (.int (iI (((i : Nat) : Int) + 1)))]) rfl ?_)
        refine k_goto dX6_people_32 (tgt := 4) rfl ?_
        have e : (kmk (fun p => exF f m (p : Int)) (i + 1)) = ((kmk (fun p => exF f m (p : Int)) i) ||| 0) := congrArg (fun x => (kmk (fun p => exF f m (p : Int)) i) ||| x) (kI_f c17)
        rw [← e]
        exact ih4 _ (by omega) (i + 1) rfl (by omega)
      · replace c17 : (exF f m ((i : Nat) : Int)) := kB_nz.mp c17
        refine k_iconst (pc1 := 21) dX6_people_20 rfl ?_
        refine k_iload_n (pc1 := 22) dX6_people_21 rfl rfl ?_
        refine k_ishl (pc1 := 23) dX6_people_22 rfl (k_val (v' := .int (iI (((2 ^ i) : Nat) : Int))) (congrArg Value.int (iI_sh1 (by omega))) ?_)
        refine k_goto dX6_people_23 (tgt := 27) rfl ?_
        refine k_ior (pc1 := 28) dX6_people_27 rfl (k_val (v' := .int (iI ((((kmk (fun p => exF f m (p : Int)) i) ||| (2 ^ i)) : Nat) : Int))) (congrArg Value.int iI_or) ?_)
        refine k_istore_n (pc1 := 29) dX6_people_28 rfl (by decide) (k_loc (L' := [some (.ref o), some (.int (iI m)), some (.int (iI ((((kmk (fun p => exF f m (p : Int)) i) ||| (2 ^ i)) : Nat) : Int))), some (.int (iI ((i : Nat) : Int)))]) rfl ?_)
        refine k_iinc (a := ((i : Nat) : Int)) (pc1 := 32) dX6_people_29 rfl rfl (by decide) (k_loc (L' := [some (.ref o), some (.int (iI m)), some (.int (iI ((((kmk (fun p => exF f m (p : Int)) i) ||| (2 ^ i)) : Nat) : Int))), some (.int (iI (((i : Nat) : Int) + 1)))]) rfl ?_)
        refine k_goto dX6_people_32 (tgt := 4) rfl ?_
        have e : (kmk (fun p => exF f m (p : Int)) (i + 1)) = ((kmk (fun p => exF f m (p : Int)) i) ||| (2 ^ i)) := congrArg (fun x => (kmk (fun p => exF f m (p : Int)) i) ||| x) (kI_t c17)
        rw [← e]
        exact ih4 _ (by omega) (i + 1) rfl (by omega)
  exact hloop4 _ 0 rfl (by omega)
theorem w_X6_many {l : Launch} {G : kG} {h : kAH} (hl : l.stackTraces = false) (q : Nat) (hq : q < 64) : kP l G m_X6_many 1 [.int (iI ((q : Nat) : Int))] h (.int (iI (kpo q 6))) := by
  refine kC_of hl rfl rfl (Nat.le_of_ble_eq_true rfl) (L := [some (.int (iI ((q : Nat) : Int))), none, none]) rfl ?_
  refine k_iconst (pc1 := 1) dX6_many_0 rfl ?_
  refine k_istore_n (pc1 := 2) dX6_many_1 rfl (by decide) (k_loc (L' := [some (.int (iI ((q : Nat) : Int))), some (.int (iI 0)), none]) rfl ?_)
  refine k_iconst (pc1 := 3) dX6_many_2 rfl ?_
  refine k_istore_n (pc1 := 4) dX6_many_3 rfl (by decide) (k_loc (L' := [some (.int (iI ((q : Nat) : Int))), some (.int (iI 0)), some (.int (iI 0))]) rfl ?_)
  have hloop4 : ∀ (zz : Nat) (i : Nat), zz = 6 - i → (i ≤ 6) → kW l G m_X6_many 1 (kPq (.int (iI (kpo q 6))) h) kNo 0 0 4 [some (.int (iI ((q : Nat) : Int))), some (.int (iI (kpo q i))), some (.int (iI ((i : Nat) : Int)))] [] h := by
    intro zz
    induction zz using Nat.strongRecOn with
    | ind zz ih4 =>
    intro i hr4 hi
    refine k_iload_n (pc1 := 5) dX6_many_4 rfl rfl ?_
    refine k_bipush 6 (pc1 := 7) dX6_many_5 rfl (by decide) ?_
    refine k_icmp_ge (a := ((i : Nat) : Int)) (b := 6) dX6_many_7 rfl (tgt := 24) rfl (by omega) (by decide) (fun c7 : 6 ≤ ((i : Nat) : Int) => ?_) (fun c7 : ((i : Nat) : Int) < 6 => ?_)
    · skip
      refine k_iload_n (pc1 := 25) dX6_many_24 rfl rfl ?_
      have e : i = 6 := by omega
      subst e
      exact k_iret dX6_many_25 rfl rfl (kret rfl _)
    · skip
      refine k_iload_n (pc1 := 11) dX6_many_10 rfl rfl ?_
      refine k_iload_n (pc1 := 12) dX6_many_11 rfl rfl ?_
      refine k_iload_n (pc1 := 13) dX6_many_12 rfl rfl ?_
      refine k_ishr (pc1 := 14) dX6_many_13 rfl ?_
      refine k_iconst (pc1 := 15) dX6_many_14 rfl ?_
      refine k_iand (pc1 := 16) dX6_many_15 rfl (k_val (v' := .int (iI (if Nat.testBit q i then 1 else 0))) (congrArg Value.int (iI_bit (by first | omega | exact kmk_lt _ _ | assumption) (by omega))) ?_)
      refine k_iadd (a := (kpo q i)) (b := (if Nat.testBit q i then 1 else 0)) (pc1 := 17) dX6_many_16 rfl ?_
      refine k_istore_n (pc1 := 18) dX6_many_17 rfl (by decide) (k_loc (L' := [some (.int (iI ((q : Nat) : Int))), some (.int (iI ((kpo q i) + (if Nat.testBit q i then 1 else 0)))), some (.int (iI ((i : Nat) : Int)))]) rfl ?_)
      refine k_iinc (a := ((i : Nat) : Int)) (pc1 := 21) dX6_many_18 rfl rfl (by decide) (k_loc (L' := [some (.int (iI ((q : Nat) : Int))), some (.int (iI ((kpo q i) + (if Nat.testBit q i then 1 else 0)))), some (.int (iI (((i : Nat) : Int) + 1)))]) rfl ?_)
      refine k_goto dX6_many_21 (tgt := 4) rfl ?_
      exact ih4 _ (by omega) (i + 1) rfl (by omega)
  exact hloop4 _ 0 rfl (by omega)
theorem w_X6_isOn {l : Launch} {G : kG} {h : kAH} {o g r : Nat} {c wm wd : Int} {f : Nat → Int} (hl : l.stackTraces = false) (hM : kMd G h o g r c wm wd f) (m dt : Int) (hW : kWf f) (hi : inP f m dt)  : kP l G m_X6_isOn 3 [.ref o, .int (iI m), .int (iI dt)] h (.int (iI (kB (onF f m dt)))) := by
  have hi2 := hi
  obtain ⟨hm0, hm1, hd0, hd1⟩ := hi2
  have h1 := kWf_m hW hm0 hm1
  have h2 := kWf_d hW hm0 hm1 hd0 hd1
  have h8 := kWf_cnt hW
  refine kC_of hl rfl rfl (Nat.le_of_ble_eq_true rfl) (L := [some (.ref o), some (.int (iI m)), some (.int (iI dt))]) rfl ?_
  refine k_aload_n (pc1 := 1) dX6_isOn_0 rfl rfl ?_
  refine k_iload_n (pc1 := 2) dX6_isOn_1 rfl rfl ?_
  refine k_iload_n (pc1 := 3) dX6_isOn_2 rfl rfl ?_
  refine k_iconst (pc1 := 4) dX6_isOn_3 rfl ?_
  refine k_callVP dX6_isOn_4 rfl lk_RX6_45 o_X6_date (w_X6_date hl hM m dt 2 (by omega) (by omega)) (as := [.int (iI m), .int (iI dt), .int (iI 2)]) hM.1 rfl rfl rfl rfl (by decide) (by decide) (k8 rfl) ?_
  refine k_if_ne (a := (dF f m dt 2)) dX6_isOn_7 rfl (tgt := 14) rfl (by omega) (fun c7 : (dF f m dt 2) ≠ 0 => ?_) (fun c7 : (dF f m dt 2) = 0 => ?_)
  · skip
    refine k_iconst (pc1 := 15) dX6_isOn_14 rfl ?_
    exact k_iret dX6_isOn_15 rfl rfl (kret (kB_f (by unfold onF; omega)).symm _)
  · skip
    refine k_iconst (pc1 := 11) dX6_isOn_10 rfl ?_
    refine k_goto dX6_isOn_11 (tgt := 15) rfl ?_
    exact k_iret dX6_isOn_15 rfl rfl (kret (kB_t (by unfold onF; omega)).symm _)
theorem w_X6_between {l : Launch} {G : kG} {h : kAH} {o g r : Nat} {c wm wd : Int} {f : Nat → Int} (hl : l.stackTraces = false) (hM : kMd G h o g r c wm wd f) (m dt t n : Int) (hW : kWf f) (hi : inP f m dt) (ht : 0 ≤ t ∧ t < 16) (hn : 1 ≤ n ∧ n ≤ 6) : kP l G m_X6_between 3 [.ref o, .int (iI m), .int (iI dt), .int (iI t), .int (iI n)] h (.int (iI (btF f m dt t n))) := by
  have hi2 := hi
  obtain ⟨hm0, hm1, hd0, hd1⟩ := hi2
  have h1 := kWf_m hW hm0 hm1
  have h2 := kWf_d hW hm0 hm1 hd0 hd1
  have h8 := kWf_cnt hW
  refine kC_of hl rfl rfl (Nat.le_of_ble_eq_true rfl) (L := [some (.ref o), some (.int (iI m)), some (.int (iI dt)), some (.int (iI t)), some (.int (iI n)), none]) rfl ?_
  refine k_aload_n (pc1 := 1) dX6_between_0 rfl rfl ?_
  refine k_iload_n (pc1 := 2) dX6_between_1 rfl rfl ?_
  refine k_iload_n (pc1 := 3) dX6_between_2 rfl rfl ?_
  refine k_iconst (pc1 := 4) dX6_between_3 rfl ?_
  refine k_callVP dX6_between_4 rfl lk_RX6_45 o_X6_date (w_X6_date hl hM m dt 1 (by omega) (by omega)) (as := [.int (iI m), .int (iI dt), .int (iI 1)]) hM.1 rfl rfl rfl rfl (by decide) (by decide) (k8 rfl) ?_
  refine k_istore (pc1 := 9) dX6_between_7 rfl (by decide) (k_loc (L' := [some (.ref o), some (.int (iI m)), some (.int (iI dt)), some (.int (iI t)), some (.int (iI n)), some (.int (iI (dF f m dt 1)))]) rfl ?_)
  refine k_iload (pc1 := 11) dX6_between_9 rfl rfl ?_
  refine k_iload_n (pc1 := 12) dX6_between_11 rfl rfl ?_
  refine k_icmp_lt (a := (dF f m dt 1)) (b := t) dX6_between_12 rfl (tgt := 25) rfl (by omega) (by omega) (fun c12 : (dF f m dt 1) < t => ?_) (fun c12 : t ≤ (dF f m dt 1) => ?_)
  · skip
    refine k_iload_n (pc1 := 26) dX6_between_25 rfl rfl ?_
    refine k_iload (pc1 := 28) dX6_between_26 rfl rfl ?_
    refine k_isub (a := t) (b := (dF f m dt 1)) (pc1 := 29) dX6_between_28 rfl ?_
    refine k_aload_n (pc1 := 30) dX6_between_29 rfl rfl ?_
    refine k_iload_n (pc1 := 31) dX6_between_30 rfl rfl ?_
    refine k_iconst (pc1 := 32) dX6_between_31 rfl ?_
    refine k_callVP dX6_between_32 rfl lk_RX6_37 o_X6_of (w_X6_of hl hM m 2 (by omega) (by omega)) (as := [.int (iI m), .int (iI 2)]) hM.1 rfl rfl rfl rfl (by decide) (by decide) (k8 rfl) ?_
    refine k_isub (a := (t - (dF f m dt 1))) (b := (oF f m 2)) (pc1 := 36) dX6_between_35 rfl ?_
    exact k_iret dX6_between_36 rfl rfl (kret (by unfold btF; first | exact (kI_t c12).symm | exact (kI_f (by omega)).symm) _)
  · skip
    refine k_iload (pc1 := 17) dX6_between_15 rfl rfl ?_
    refine k_iload_n (pc1 := 18) dX6_between_17 rfl rfl ?_
    refine k_isub (a := (dF f m dt 1)) (b := t) (pc1 := 19) dX6_between_18 rfl ?_
    refine k_iload (pc1 := 21) dX6_between_19 rfl rfl ?_
    refine k_isub (a := ((dF f m dt 1) - t)) (b := n) (pc1 := 22) dX6_between_21 rfl ?_
    refine k_goto dX6_between_22 (tgt := 36) rfl ?_
    exact k_iret dX6_between_36 rfl rfl (kret (by unfold btF; first | exact (kI_t c12).symm | exact (kI_f (by omega)).symm) _)
theorem w_X6_counts {l : Launch} {G : kG} {h : kAH} {o g r : Nat} {c wm wd : Int} {f : Nat → Int} (hl : l.stackTraces = false) (hM : kMd G h o g r c wm wd f) (m dt k : Int) (hW : kWf f) (hi : inP f m dt) (hwm : -1 ≤ wm ∧ wm < 8) (hwd : -1 ≤ wd ∧ wd < 6) (rk : -2147483648 ≤ k ∧ k < 2147483648) : kP l G m_X6_counts 4 [.ref o, .int (iI m), .int (iI dt), .int (iI k)] h (.int (iI (kB (ctF f wm wd m dt k)))) := by
  have hi2 := hi
  obtain ⟨hm0, hm1, hd0, hd1⟩ := hi2
  have h1 := kWf_m hW hm0 hm1
  have h2 := kWf_d hW hm0 hm1 hd0 hd1
  have h8 := kWf_cnt hW
  refine kC_of hl rfl rfl (Nat.le_of_ble_eq_true rfl) (L := [some (.ref o), some (.int (iI m)), some (.int (iI dt)), some (.int (iI k))]) rfl ?_
  refine k_aload_n (pc1 := 1) dX6_counts_0 rfl rfl ?_
  refine k_iload_n (pc1 := 2) dX6_counts_1 rfl rfl ?_
  refine k_iload_n (pc1 := 3) dX6_counts_2 rfl rfl ?_
  refine k_callVP dX6_counts_3 rfl lk_RX6_49 o_X6_isOn (w_X6_isOn hl hM m dt hW ⟨by omega, by omega, by omega, by omega⟩) (as := [.int (iI m), .int (iI dt)]) hM.1 rfl rfl rfl rfl (by decide) (by decide) (k8 rfl) ?_
  refine k_if_eq (a := kB (onF f m dt)) dX6_counts_6 rfl (tgt := 40) rfl (kB_r _) (fun c6 : kB (onF f m dt) = 0 => ?_) (fun c6 : kB (onF f m dt) ≠ 0 => ?_)
  · replace c6 : ¬(onF f m dt) := kB_z.mp c6
    refine k_iconst (pc1 := 41) dX6_counts_40 rfl ?_
    exact k_iret dX6_counts_41 rfl rfl (kret (kB_f (by unfold ctF; grind)).symm _)
  · replace c6 : (onF f m dt) := kB_nz.mp c6
    refine k_aload_n (pc1 := 10) dX6_counts_9 rfl rfl ?_
    refine k_iload_n (pc1 := 11) dX6_counts_10 rfl rfl ?_
    refine k_iload_n (pc1 := 12) dX6_counts_11 rfl rfl ?_
    refine k_iconst (pc1 := 13) dX6_counts_12 rfl ?_
    refine k_callVP dX6_counts_13 rfl lk_RX6_45 o_X6_date (w_X6_date hl hM m dt 0 (by omega) (by omega)) (as := [.int (iI m), .int (iI dt), .int (iI 0)]) hM.1 rfl rfl rfl rfl (by decide) (by decide) (k8 rfl) ?_
    refine k_iload_n (pc1 := 17) dX6_counts_16 rfl rfl ?_
    refine k_icmp_ne (a := (dF f m dt 0)) (b := k) dX6_counts_17 rfl (tgt := 40) rfl (by omega) (by omega) (fun c17 : (dF f m dt 0) ≠ k => ?_) (fun c17 : (dF f m dt 0) = k => ?_)
    · skip
      refine k_iconst (pc1 := 41) dX6_counts_40 rfl ?_
      exact k_iret dX6_counts_41 rfl rfl (kret (kB_f (by unfold ctF; grind)).symm _)
    · skip
      refine k_iload_n (pc1 := 21) dX6_counts_20 rfl rfl ?_
      refine k_aload_n (pc1 := 22) dX6_counts_21 rfl rfl ?_
      refine k_get (pc1 := 25) dX6_counts_22 rfl fd_RX6_13 hM.1 (v := .int (iI wm)) rfl ?_
      refine k_icmp_ne (a := m) (b := wm) dX6_counts_25 rfl (tgt := 36) rfl (by omega) (by omega) (fun c25 : m ≠ wm => ?_) (fun c25 : m = wm => ?_)
      · skip
        refine k_iconst (pc1 := 37) dX6_counts_36 rfl ?_
        refine k_goto dX6_counts_37 (tgt := 41) rfl ?_
        exact k_iret dX6_counts_41 rfl rfl (kret (kB_t (by unfold ctF; grind)).symm _)
      · skip
        refine k_iload_n (pc1 := 29) dX6_counts_28 rfl rfl ?_
        refine k_aload_n (pc1 := 30) dX6_counts_29 rfl rfl ?_
        refine k_get (pc1 := 33) dX6_counts_30 rfl fd_RX6_17 hM.1 (v := .int (iI wd)) rfl ?_
        refine k_icmp_eq (a := dt) (b := wd) dX6_counts_33 rfl (tgt := 40) rfl (by omega) (by omega) (fun c33 : dt = wd => ?_) (fun c33 : dt ≠ wd => ?_)
        · skip
          refine k_iconst (pc1 := 41) dX6_counts_40 rfl ?_
          exact k_iret dX6_counts_41 rfl rfl (kret (kB_f (by unfold ctF; grind)).symm _)
        · skip
          refine k_iconst (pc1 := 37) dX6_counts_36 rfl ?_
          refine k_goto dX6_counts_37 (tgt := 41) rfl ?_
          exact k_iret dX6_counts_41 rfl rfl (kret (kB_t (by unfold ctF; grind)).symm _)
theorem w_X6_busy {l : Launch} {G : kG} {h : kAH} {o g r : Nat} {c wm wd : Int} {f : Nat → Int} (hl : l.stackTraces = false) (hM : kMd G h o g r c wm wd f) (q : Nat) (k t n : Int) (hq : q < 64) (hW : kWf f) (hwm : -1 ≤ wm ∧ wm < 8) (hwd : -1 ≤ wd ∧ wd < 6) (hk : 0 ≤ k ∧ k < 28) (ht : 0 ≤ t ∧ t < 16) (hn : 1 ≤ n ∧ n ≤ 6)  : kP l G m_X6_busy 5 [.ref o, .int (iI ((q : Nat) : Int)), .int (iI k), .int (iI t), .int (iI n)] h (.int (iI (bsyF f wm wd q k t n))) := by
  have h8 := kWf_cnt hW
  refine kC_of hl rfl rfl (Nat.le_of_ble_eq_true rfl) (L := [some (.ref o), some (.int (iI ((q : Nat) : Int))), some (.int (iI k)), some (.int (iI t)), some (.int (iI n)), none, none, none]) rfl ?_
  refine k_iconst (pc1 := 1) dX6_busy_0 rfl ?_
  refine k_istore (pc1 := 3) dX6_busy_1 rfl (by decide) (k_loc (L' := [some (.ref o), some (.int (iI ((q : Nat) : Int))), some (.int (iI k)), some (.int (iI t)), some (.int (iI n)), some (.int (iI 0)), none, none]) rfl ?_)
  refine k_iconst (pc1 := 4) dX6_busy_3 rfl ?_
  refine k_istore (pc1 := 6) dX6_busy_4 rfl (by decide) (k_loc (L' := [some (.ref o), some (.int (iI ((q : Nat) : Int))), some (.int (iI k)), some (.int (iI t)), some (.int (iI n)), some (.int (iI 0)), some (.int (iI 0)), none]) rfl ?_)
  have hloop6 : ∀ (zz : Nat) (m : Int) (b : Nat), zz = (f 1 - m).toNat → (0 ≤ m) → (m ≤ f 1) → (bsI f wm wd q k t n m 0 b) → kW l G m_X6_busy 5 (kPq (.int (iI (bsyF f wm wd q k t n))) h) kNo 0 0 6 [some (.ref o), some (.int (iI ((q : Nat) : Int))), some (.int (iI k)), some (.int (iI t)), some (.int (iI n)), some (.int (iI ((b : Nat) : Int))), some (.int (iI m)), none] [] h := by
    intro zz
    induction zz using Nat.strongRecOn with
    | ind zz ih6 =>
    intro m b hr6 hm0 hm1 hB
    refine k_iload (pc1 := 8) dX6_busy_6 rfl rfl ?_
    refine k_aload_n (pc1 := 9) dX6_busy_8 rfl rfl ?_
    refine k_get (pc1 := 12) dX6_busy_9 rfl fd_RX6_7 hM.1 (v := .ref g) rfl ?_
    refine k_iconst (pc1 := 13) dX6_busy_12 rfl ?_
    refine k_iald (i := 1) (f := f) (pc1 := 14) dX6_busy_13 rfl hM.2.1 (N := 380) (by omega) (by omega) (by decide) (k_val (v' := .int (iI (f 1))) rfl ?_)
    refine k_icmp_ge (a := m) (b := (f 1)) dX6_busy_14 rfl (tgt := 83) rfl (by omega) (by omega) (fun c14 : (f 1) ≤ m => ?_) (fun c14 : m < (f 1) => ?_)
    · skip
      have hE := fun p hp => bsI_end hB (show m = f 1 by omega) (p := p) hp
      have hb6 := hB.1
      refine k_iconst (pc1 := 84) dX6_busy_83 rfl ?_
      refine k_istore (pc1 := 86) dX6_busy_84 rfl (by decide) (k_loc (L' := [some (.ref o), some (.int (iI ((q : Nat) : Int))), some (.int (iI k)), some (.int (iI t)), some (.int (iI n)), some (.int (iI ((b : Nat) : Int))), some (.int (iI 0)), none]) rfl ?_)
      have hloop86 : ∀ (zz : Nat) (i : Nat), zz = 6 - i → (i ≤ 6) → (∀ j : Nat, j < i → ¬ b.testBit j = true) → kW l G m_X6_busy 5 (kPq (.int (iI (bsyF f wm wd q k t n))) h) kNo 0 0 86 [some (.ref o), some (.int (iI ((q : Nat) : Int))), some (.int (iI k)), some (.int (iI t)), some (.int (iI n)), some (.int (iI ((b : Nat) : Int))), some (.int (iI ((i : Nat) : Int))), none] [] h := by
        intro zz
        induction zz using Nat.strongRecOn with
        | ind zz ih86 =>
        intro i hr86 hi hJ
        refine k_iload (pc1 := 88) dX6_busy_86 rfl rfl ?_
        refine k_bipush 6 (pc1 := 90) dX6_busy_88 rfl (by decide) ?_
        refine k_icmp_ge (a := ((i : Nat) : Int)) (b := 6) dX6_busy_90 rfl (tgt := 113) rfl (by omega) (by decide) (fun c90 : 6 ≤ ((i : Nat) : Int) => ?_) (fun c90 : ((i : Nat) : Int) < 6 => ?_)
        · skip
          refine k_iconst (pc1 := 114) dX6_busy_113 rfl ?_
          exact k_iret dX6_busy_114 rfl rfl (kret (kls_none (fun j hj z => absurd ((hE j hj).mpr z) (hJ j (by omega)))).symm _)
        · skip
          refine k_iload (pc1 := 95) dX6_busy_93 rfl rfl ?_
          refine k_iload (pc1 := 97) dX6_busy_95 rfl rfl ?_
          refine k_ishr (pc1 := 98) dX6_busy_97 rfl ?_
          refine k_iconst (pc1 := 99) dX6_busy_98 rfl ?_
          refine k_iand (pc1 := 100) dX6_busy_99 rfl (k_val (v' := .int (iI (if Nat.testBit b i then 1 else 0))) (congrArg Value.int (iI_bit (by first | omega | exact kmk_lt _ _ | assumption) (by omega))) ?_)
          refine k_iconst (pc1 := 101) dX6_busy_100 rfl ?_
          have hbr : -2147483648 ≤ (if b.testBit i then (1 : Int) else 0) ∧ (if b.testBit i then (1 : Int) else 0) < 2147483648 := by split <;> decide
          refine k_icmp_ne (a := (if Nat.testBit b i then 1 else 0)) (b := 1) dX6_busy_101 rfl (tgt := 107) rfl (by omega) (by decide) (fun c101 : (if Nat.testBit b i then 1 else 0) ≠ 1 => ?_) (fun c101 : (if Nat.testBit b i then 1 else 0) = 1 => ?_)
          · skip
            refine k_iinc (a := ((i : Nat) : Int)) (pc1 := 110) dX6_busy_107 rfl rfl (by decide) (k_loc (L' := [some (.ref o), some (.int (iI ((q : Nat) : Int))), some (.int (iI k)), some (.int (iI t)), some (.int (iI n)), some (.int (iI ((b : Nat) : Int))), some (.int (iI (((i : Nat) : Int) + 1))), none]) rfl ?_)
            refine k_goto dX6_busy_110 (tgt := 86) rfl ?_
            exact ih86 _ (by omega) (i + 1) rfl (by omega) (fun j hj => if e : j = i then (fun z => by subst e; rw [z] at c101; exact absurd rfl c101) else hJ j (by omega))
          · skip
            refine k_iload (pc1 := 106) dX6_busy_104 rfl rfl ?_
            have z : b.testBit i = true := by
              cases e : b.testBit i with
              | true => rfl
              | false => rw [e] at c101; exact absurd c101 (by decide)
            exact k_iret dX6_busy_106 rfl rfl (kret (kls_at (i := i) (by omega) ((hE i (by omega)).mp z) (fun j hj z => absurd ((hE j (by omega)).mpr z) (hJ j hj))).symm _)
      exact hloop86 _ 0 rfl (by omega) (fun j hj => absurd hj (by omega))
    · skip
      have hm := kWf_m hW hm0 c14
      refine k_iconst (pc1 := 18) dX6_busy_17 rfl ?_
      refine k_istore (pc1 := 20) dX6_busy_18 rfl (by decide) (k_loc (L' := [some (.ref o), some (.int (iI ((q : Nat) : Int))), some (.int (iI k)), some (.int (iI t)), some (.int (iI n)), some (.int (iI ((b : Nat) : Int))), some (.int (iI m)), some (.int (iI 0))]) rfl ?_)
      have hloop20 : ∀ (zz : Nat) (dt : Int) (b : Nat), zz = (oF f m 3 - dt).toNat → (0 ≤ dt) → (dt ≤ oF f m 3) → (bsI f wm wd q k t n m dt b) → kW l G m_X6_busy 5 (kPq (.int (iI (bsyF f wm wd q k t n))) h) kNo 0 0 20 [some (.ref o), some (.int (iI ((q : Nat) : Int))), some (.int (iI k)), some (.int (iI t)), some (.int (iI n)), some (.int (iI ((b : Nat) : Int))), some (.int (iI m)), some (.int (iI dt))] [] h := by
        intro zz
        induction zz using Nat.strongRecOn with
        | ind zz ih20 =>
        intro dt b hr20 hd0 hd1 hB
        refine k_iload (pc1 := 22) dX6_busy_20 rfl rfl ?_
        refine k_aload_n (pc1 := 23) dX6_busy_22 rfl rfl ?_
        refine k_iload (pc1 := 25) dX6_busy_23 rfl rfl ?_
        refine k_iconst (pc1 := 26) dX6_busy_25 rfl ?_
        refine k_callVP dX6_busy_26 rfl lk_RX6_37 o_X6_of (w_X6_of hl hM m 3 (by omega) (by omega)) (as := [.int (iI m), .int (iI 3)]) hM.1 rfl rfl rfl rfl (by decide) (by decide) (k8 rfl) ?_
        refine k_icmp_ge (a := dt) (b := (oF f m 3)) dX6_busy_29 rfl (tgt := 77) rfl (by omega) (by omega) (fun c29 : (oF f m 3) ≤ dt => ?_) (fun c29 : dt < (oF f m 3) => ?_)
        · skip
          refine k_iinc (a := m) (pc1 := 80) dX6_busy_77 rfl rfl (by decide) (k_loc (L' := [some (.ref o), some (.int (iI ((q : Nat) : Int))), some (.int (iI k)), some (.int (iI t)), some (.int (iI n)), some (.int (iI ((b : Nat) : Int))), some (.int (iI (m + 1))), some (.int (iI dt))]) rfl ?_)
          refine k_goto dX6_busy_80 (tgt := 6) rfl ?_
          refine k_forget 7 (k_loc (L' := [some (.ref o), some (.int (iI ((q : Nat) : Int))), some (.int (iI k)), some (.int (iI t)), some (.int (iI n)), some (.int (iI ((b : Nat) : Int))), some (.int (iI (m + 1))), none]) rfl ?_)
          exact ih6 _ (by omega) (m + 1) b rfl (by omega) (by omega) (bsI_next hB hm0 (by omega))
        · skip
          have hi : inP f m dt := ⟨hm0, c14, hd0, c29⟩
          refine k_aload_n (pc1 := 33) dX6_busy_32 rfl rfl ?_
          refine k_iload (pc1 := 35) dX6_busy_33 rfl rfl ?_
          refine k_iload (pc1 := 37) dX6_busy_35 rfl rfl ?_
          refine k_iload_n (pc1 := 38) dX6_busy_37 rfl rfl ?_
          refine k_callVP dX6_busy_38 rfl lk_RX6_52 o_X6_counts (w_X6_counts hl hM m dt k hW ⟨by omega, by omega, by omega, by omega⟩ hwm hwd (by omega)) (as := [.int (iI m), .int (iI dt), .int (iI k)]) hM.1 rfl rfl rfl rfl (by decide) (by decide) (k8 rfl) ?_
          refine k_if_eq (a := kB (ctF f wm wd m dt k)) dX6_busy_41 rfl (tgt := 71) rfl (kB_r _) (fun c41 : kB (ctF f wm wd m dt k) = 0 => ?_) (fun c41 : kB (ctF f wm wd m dt k) ≠ 0 => ?_)
          · replace c41 : ¬(ctF f wm wd m dt k) := kB_z.mp c41
            refine k_iinc (a := dt) (pc1 := 74) dX6_busy_71 rfl rfl (by decide) (k_loc (L' := [some (.ref o), some (.int (iI ((q : Nat) : Int))), some (.int (iI k)), some (.int (iI t)), some (.int (iI n)), some (.int (iI ((b : Nat) : Int))), some (.int (iI m)), some (.int (iI (dt + 1)))]) rfl ?_)
            refine k_goto dX6_busy_74 (tgt := 20) rfl ?_
            exact ih20 _ (by omega) (dt + 1) b rfl (by omega) (by omega) (bsI_skip hB hd0 (by first | exact fun z => absurd z.1 c41 | exact fun z => absurd z.2 (by omega)))
          · replace c41 : (ctF f wm wd m dt k) := kB_nz.mp c41
            have hbr := btF_r hW hi ht hn
            refine k_aload_n (pc1 := 45) dX6_busy_44 rfl rfl ?_
            refine k_iload (pc1 := 47) dX6_busy_45 rfl rfl ?_
            refine k_iload (pc1 := 49) dX6_busy_47 rfl rfl ?_
            refine k_iload_n (pc1 := 50) dX6_busy_49 rfl rfl ?_
            refine k_iload (pc1 := 52) dX6_busy_50 rfl rfl ?_
            refine k_callVP dX6_busy_52 rfl lk_RX6_55 o_X6_between (w_X6_between hl hM m dt t n hW ⟨by omega, by omega, by omega, by omega⟩ ⟨by omega, by omega⟩ ⟨by omega, by omega⟩) (as := [.int (iI m), .int (iI dt), .int (iI t), .int (iI n)]) hM.1 rfl rfl rfl rfl (by decide) (by decide) (k8 rfl) ?_
            refine k_if_ge (a := (btF f m dt t n)) dX6_busy_55 rfl (tgt := 71) rfl (by omega) (fun c55 : 0 ≤ (btF f m dt t n) => ?_) (fun c55 : (btF f m dt t n) < 0 => ?_)
            · skip
              refine k_iinc (a := dt) (pc1 := 74) dX6_busy_71 rfl rfl (by decide) (k_loc (L' := [some (.ref o), some (.int (iI ((q : Nat) : Int))), some (.int (iI k)), some (.int (iI t)), some (.int (iI n)), some (.int (iI ((b : Nat) : Int))), some (.int (iI m)), some (.int (iI (dt + 1)))]) rfl ?_)
              refine k_goto dX6_busy_74 (tgt := 20) rfl ?_
              exact ih20 _ (by omega) (dt + 1) b rfl (by omega) (by omega) (bsI_skip hB hd0 (by first | exact fun z => absurd z.1 c41 | exact fun z => absurd z.2 (by omega)))
            · skip
              refine k_iload (pc1 := 60) dX6_busy_58 rfl rfl ?_
              refine k_aload_n (pc1 := 61) dX6_busy_60 rfl rfl ?_
              refine k_iload (pc1 := 63) dX6_busy_61 rfl rfl ?_
              refine k_callVP dX6_busy_63 rfl lk_RX6_59 o_X6_people (w_X6_people hl hM m hW (by omega) (by omega)) (as := [.int (iI m)]) hM.1 rfl rfl rfl rfl (by decide) (by decide) (k8 rfl) ?_
              refine k_iload_n (pc1 := 67) dX6_busy_66 rfl rfl ?_
              refine k_iand (pc1 := 68) dX6_busy_67 rfl (k_val (v' := .int (iI (((kan (ppF f m) q) : Nat) : Int))) (congrArg Value.int iI_and) ?_)
              refine k_ior (pc1 := 69) dX6_busy_68 rfl (k_val (v' := .int (iI (((b ||| (kan (ppF f m) q)) : Nat) : Int))) (congrArg Value.int iI_or) ?_)
              refine k_istore (pc1 := 71) dX6_busy_69 rfl (by decide) (k_loc (L' := [some (.ref o), some (.int (iI ((q : Nat) : Int))), some (.int (iI k)), some (.int (iI t)), some (.int (iI n)), some (.int (iI (((b ||| (kan (ppF f m) q)) : Nat) : Int))), some (.int (iI m)), some (.int (iI dt))]) rfl ?_)
              refine k_iinc (a := dt) (pc1 := 74) dX6_busy_71 rfl rfl (by decide) (k_loc (L' := [some (.ref o), some (.int (iI ((q : Nat) : Int))), some (.int (iI k)), some (.int (iI t)), some (.int (iI n)), some (.int (iI (((b ||| (kan (ppF f m) q)) : Nat) : Int))), some (.int (iI m)), some (.int (iI (dt + 1)))]) rfl ?_)
              refine k_goto dX6_busy_74 (tgt := 20) rfl ?_
              exact ih20 _ (by omega) (dt + 1) _ rfl (by omega) (by omega) (bsI_take hB hd0 c41 c55)
      exact hloop20 _ 0 b rfl (by omega) (by omega) hB
  exact hloop6 _ 0 0 rfl (by omega) (by omega) bsI_0
