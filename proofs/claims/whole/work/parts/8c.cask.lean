/-! ===== the class: ask, walked ===== -/
theorem w_X5_ask {l : Launch} {G : kG} {h : kAH} (hl : l.stackTraces = false) {pl : Nat} {γ : kGh} {A : kAb} {f : Nat → Int} (hC : kRp G h pl γ A f) (hnx9 : f 2 < 1000000) {hs a k t n : Int} (rhs : -2147483648 ≤ hs ∧ hs < 2147483648) (ra : -2147483648 ≤ a ∧ a < 2147483648) (rk : -2147483648 ≤ k ∧ k < 2147483648) (rt : -2147483648 ≤ t ∧ t < 2147483648) (rn : -2147483648 ≤ n ∧ n < 2147483648) : kC l G m_X5_ask 10 34 4200 [.ref pl, .int (iI hs), .int (iI a), .int (iI k), .int (iI t), .int (iI n)] h (kOy G pl γ h (Task f hs a k t n)) (kOn G pl γ h (Task f hs a k t n) ["", "java/lang/IllegalArgumentException", "java/lang/IllegalStateException", "java/lang/UnsupportedOperationException"]) := by
  have h8 := kWf_cnt hC.2.2
  refine kC_of hl rfl rfl (Nat.le_of_ble_eq_true rfl) (L := [some (.ref pl), some (.int (iI hs)), some (.int (iI a)), some (.int (iI k)), some (.int (iI t)), some (.int (iI n)), none, none]) rfl ?_
  obtain ⟨arM, cM, hMl⟩ := rp_Ml hC
  obtain ⟨mcM, hMa⟩ := hMl.1
  have h8 := kWf_cnt hC.2.2
  refine k_iload_n (pc1 := 1) dX5_ask_0 rfl rfl ?_
  by_cases hq1 : 0 ≤ hs ∧ hs ≤ 5
  · skip
    refine k_callS dX5_ask_1 rfl rfl lk_RX5_58 o_X5_requirePerson (as := [.int (iI hs)]) rfl rfl (w_rpY hl (by omega) hq1) (by decide) (by decide) (by decide) (by decide) (k8 rfl) (fun v h9 hv => ?_) (fun E h9 z => z.elim)
    obtain ⟨hv1, hv2⟩ := hv
    subst hv1
    rw [hv2]
    refine k_st (st' := []) rfl ?_
    refine k_iload_n (pc1 := 5) dX5_ask_4 rfl rfl ?_
    refine k_iconst (pc1 := 6) dX5_ask_5 rfl ?_
    refine k_bipush 63 (pc1 := 8) dX5_ask_6 rfl (by decide) ?_
    by_cases hq8 : (0 : Int) ≤ a ∧ a ≤ 63
    · skip
      refine k_callS dX5_ask_8 rfl rfl lk_RX5_49 o_X5_requireWithin (as := [.int (iI a), .int (iI 0), .int (iI 63)]) rfl rfl (w_rwY hl (by omega) (by decide) (by decide) hq8) (by decide) (by decide) (by decide) (by decide) (k8 rfl) (fun v h9 hv => ?_) (fun E h9 z => z.elim)
      obtain ⟨hv1, hv2⟩ := hv
      subst hv1
      rw [hv2]
      refine k_st (st' := []) rfl ?_
      refine k_iload_n (pc1 := 12) dX5_ask_11 rfl rfl ?_
      refine k_iload (pc1 := 14) dX5_ask_12 rfl rfl ?_
      refine k_iload (pc1 := 16) dX5_ask_14 rfl rfl ?_
      by_cases hq16 : 0 ≤ k ∧ k ≤ 27 ∧ 0 ≤ t ∧ t ≤ 15 ∧ 1 ≤ n ∧ n ≤ 6 ∧ t + n ≤ 16
      · skip
        refine k_callS dX5_ask_16 rfl rfl lk_RX5_62 o_X5_requireSlot (as := [.int (iI k), .int (iI t), .int (iI n)]) rfl rfl (w_rsY hl (by omega) (by omega) (by omega) hq16) (by decide) (by decide) (by decide) (by decide) (k8 rfl) (fun v h9 hv => ?_) (fun E h9 z => z.elim)
        obtain ⟨hv1, hv2⟩ := hv
        subst hv1
        rw [hv2]
        refine k_st (st' := []) rfl ?_
        refine k_aload_n (pc1 := 20) dX5_ask_19 rfl rfl ?_
        refine k_get (pc1 := 23) dX5_ask_20 rfl fd_RX5_28 (rp_P hC) (v := .ref (gMl γ)) rfl ?_
        refine k_callVP dX5_ask_23 rfl lk_RX5_65 o_Jx4a65c_size_8abf5 (w_lsz hl hMl) (as := []) hMa rfl rfl rfl rfl (by decide) (by decide) (k8 rfl) ?_
        refine k_val (v' := .int (iI (f 1))) (congrArg (fun z : Int => Value.int (iI z)) (by rw [List.length_map, List.length_range]; omega)) ?_
        refine k_bipush 8 (pc1 := 28) dX5_ask_26 rfl (by decide) ?_
        refine k_icmp_lt (a := (f 1)) (b := 8) dX5_ask_28 rfl (tgt := 41) rfl (by omega) (by decide) (fun c28 : (f 1) < 8 => ?_) (fun c28 : 8 ≤ (f 1) => ?_)
        · skip
          have hq9 : a.toNat < 64 := by omega
          have hqp : 2 ^ hs.toNat < 64 := k2p_lt (by omega)
          refine k_loc (L' := [some (.ref pl), some (.int (iI hs)), some (.int (iI ((a.toNat : Nat) : Int))), some (.int (iI k)), some (.int (iI t)), some (.int (iI n)), none, none]) (by rw [Int.toNat_of_nonneg (by omega)]) ?_
          have hC0 := hC
          refine k_new (pc1 := 44) dX5_ask_41 rfl nw_RX5_76 (by decide) (by decide) (fun m hm => ?_)
          replace hC := kRp_xt (kXt_new (e := .inr (6, [.int 0, .int 0, .int 0, .null, .int 0, .int 0])) hm) hC
          refine k_dup (pc1 := 45) dX5_ask_44 rfl rfl ?_
          refine k_aload_n (pc1 := 46) dX5_ask_45 rfl rfl ?_
          refine k_get (pc1 := 49) dX5_ask_46 rfl fd_RX5_36 (rp_P hC) (v := .int (iI (f 2))) rfl ?_
          refine k_iload_n (pc1 := 50) dX5_ask_49 rfl rfl ?_
          refine k_iload_n (pc1 := 51) dX5_ask_50 rfl rfl ?_
          refine k_iload_n (pc1 := 52) dX5_ask_51 rfl rfl ?_
          refine k_callSP dX5_ask_52 rfl lk_RX5_78 o_X5_bitOf (w_X5_bitOf hl hs ⟨by omega, by omega⟩) (as := [.int (iI hs)]) rfl rfl rfl (by decide) (by decide) (k8 rfl) ?_
          refine k_iconst (pc1 := 56) dX5_ask_55 rfl ?_
          refine k_ixor (pc1 := 57) dX5_ask_56 rfl ?_
          refine k_iand (pc1 := 58) dX5_ask_57 rfl (k_val (v' := .int (iI (((kdf a.toNat (2 ^ hs.toNat)) : Nat) : Int))) (congrArg Value.int (iI_andn (by first | omega | exact kmk_lt _ 6 | exact exM_lt ⟨by omega, by omega⟩ (by first | omega | exact kmk_lt _ 6) | assumption) (by first | omega | exact kmk_lt _ 6 | exact exM_lt ⟨by omega, by omega⟩ (by first | omega | exact kmk_lt _ 6) | assumption))) ?_)
          refine k_callI dX5_ask_58 rfl lk_RX5_82 o_X2_init (as := [.int (iI (f 2)), .int (iI hs), .int (iI (((kdf a.toNat (2 ^ hs.toNat)) : Nat) : Int))]) rfl rfl (w_meetI hl (kup_same _ _ _)) (fun E h9 z => z.elim) (by decide) (by decide) (by decide) (by decide) (k8 rfl) (fun v h1 hv => ?_)
          obtain ⟨hv1, dl, hdl, hm1, hdl1, hv3⟩ := hv
          subst hv1
          refine k_st (st' := [.ref m]) rfl ?_
          have hmdl : dl ≠ m := fun y => by rw [y, kup_same] at hdl; cases hdl
          rw [kup_ne hmdl] at hdl
          have hX1 : kXt h h1 := fun b e z => (hv3 b (kne_new z hm) (kne_new z hdl)).trans ((kup_ne (kne_new z hm)).trans z)
          clear hv3
          refine k_astore (pc1 := 63) dX5_ask_61 rfl (by decide) (k_loc (L' := [some (.ref pl), some (.int (iI hs)), some (.int (iI ((a.toNat : Nat) : Int))), some (.int (iI k)), some (.int (iI t)), some (.int (iI n)), some (.ref m), none]) rfl ?_)
          refine k_new (pc1 := 66) dX5_ask_63 rfl nw_RX5_25 (by omega) (by omega) (fun sl hsl => ?_)
          refine k_dup (pc1 := 67) dX5_ask_66 rfl rfl ?_
          refine k_callI dX5_ask_67 rfl lk_RX5_27 o_Jx4a65c_init_da8c8 (as := []) rfl rfl (w_lnew hl (kup_same _ _ _)) (fun E h9 z => z.elim) (by decide) (by decide) (Nat.zero_le _) (Nat.zero_le _) (k8 rfl) (fun v h2 hv => ?_)
          obtain ⟨hv1, hL2, hv3⟩ := hv
          subst hv1
          refine k_st (st' := [.ref sl]) rfl ?_
          have hf2 : ∀ b, b ≠ sl → h2 b = h1 b := fun b hb => (hv3 b hb).trans (kup_ne hb)
          have hX2 : kXt h1 h2 := fun b e z => (hf2 b (kne_new z hsl)).trans z
          clear hv3
          refine k_astore (pc1 := 72) dX5_ask_70 rfl (by decide) (k_loc (L' := [some (.ref pl), some (.int (iI hs)), some (.int (iI ((a.toNat : Nat) : Int))), some (.int (iI k)), some (.int (iI t)), some (.int (iI n)), some (.ref m), some (.ref sl)]) rfl ?_)
          refine k_aload (pc1 := 74) dX5_ask_72 rfl rfl ?_
          refine k_new (pc1 := 77) dX5_ask_74 rfl nw_RX5_83 (by decide) (by decide) (fun q hq => ?_)
          refine k_dup (pc1 := 78) dX5_ask_77 rfl rfl ?_
          refine k_iload_n (pc1 := 79) dX5_ask_78 rfl rfl ?_
          refine k_iload (pc1 := 81) dX5_ask_79 rfl rfl ?_
          refine k_iload (pc1 := 83) dX5_ask_81 rfl rfl ?_
          refine k_callI dX5_ask_83 rfl lk_RX5_85 o_X4_init (as := [.int (iI k), .int (iI t), .int (iI n)]) rfl rfl (w_slotI hl (kup_same _ _ _)) (fun E h9 z => z.elim) (by decide) (by decide) (by decide) (by decide) (k8 rfl) (fun v h3 hv => ?_)
          obtain ⟨hv1, hq3, hv3⟩ := hv
          subst hv1
          refine k_st (st' := [.ref q, .ref sl]) rfl ?_
          have hX3 : kXt h2 h3 := fun b e z => (hv3 b (kne_new z hq)).trans ((kup_ne (kne_new z hq)).trans z)
          clear hv3
          have hL3 := kLs_xt hX3 hL2
          obtain ⟨mc3, hL3a⟩ := hL3.1
          refine k_ged (fun hed3 => ?_)
          refine k_callV dX5_ask_86 rfl lk_RX5_86 o_Jx4a65c_add_9ea2d (as := [.ref q]) rfl rfl hL3a rfl rfl (w_ladd hl hL3 (by decide) (ci := 8) rfl (by decide) (by decide) (fun y hy => nomatch hy) hq3) (by decide) (by decide) (by decide) (by decide) (k8 rfl) (fun v h4 hv => ?_) (fun E h9 z => z.elim)
          obtain ⟨hv1, ar4, c4, hL4, hne4, hfr4⟩ := hv
          subst hv1
          refine k_st (st' := [.int (iI 1)]) rfl ?_
          have hsl1 : h1 sl = none := hsl
          have hXs : ∀ (b : Nat) (e : va_E), h1 b = some e → h4 b = some e := fun b e z => by
            have z3 := hX3 _ _ (hX2 _ _ z)
            exact (hfr4 b (fun y => by rw [y, hsl1] at z; cases z) (fun y => by rw [y, hed3] at z3; cases z3) (by rw [z3]; exact fun y => by cases y)).trans z3
          have hsq : q ≠ sl := fun y => by
            rw [y, hL3a] at hq3
            cases hq3
          have hq4 : h4 q = some (.inr (8, [.int (iI k), .int (iI t), .int (iI n)])) := (hfr4 q hsq (fun y => by rw [y, hed3] at hq3; cases hq3) (by rw [hq3]; exact fun y => by cases y)).trans hq3
          have hXh : kXt h h4 := fun b e z => hXs b e (hX1 b e z)
          have hC4 := kRp_xt hXh hC0
          have hm4 := hXs _ _ hm1
          have hdl4 : kLs G h4 dl G.2.2.2 0 [] := kLs_fr hdl1 (fun e he => hXs _ _ he) (fun e he => hXs _ _ he)
          have tg : ∀ b : Nat, h b = none → gOw γ b = (0, 0) := hC0.1.2.2.2.2.2.2.2.2
          have hqh : h q = none := by
            cases c : h q with
            | none => rfl
            | some e => have z := hX2 _ _ (hX1 _ _ c); rw [hq] at z; cases z
          have nn : ∀ i : Int, 0 ≤ i → i < f 1 → oF f i 0 ≠ f 2 := fun i i0 i1 => by
            have := (kWf_m hC0.2.2 i0 i1).2.1
            omega
          have hnx := kWf_nxt hC0.2.2
          have hml : f 2 ∉ aMl A := fun y => by
            rw [hC0.2.1.2.2.1] at y
            obtain ⟨i, hi, ei⟩ := List.mem_map.mp y
            exact nn (i : Int) (by omega) (by have := List.mem_range.mp hi; omega) ei
          obtain ⟨ow1, hR1, hu1⟩ := ra_NM (n := f 2) hC4.1 hnx.1 hm4 (tg m hm) hdl4 (tg dl hdl) hml
          have hCn : kRp G h4 pl (xNG γ ow1 (f 2) m dl) (xNA A (f 2) hs (kdf a.toNat (2 ^ hs.toNat))) f := ⟨hR1, rl_nm hC4.2.1 nn, hC0.2.2⟩
          refine k_pop (pc1 := 90) dX5_ask_89 rfl rfl ?_
          refine k_aload_n (pc1 := 91) dX5_ask_90 rfl rfl ?_
          refine k_aload (pc1 := 93) dX5_ask_91 rfl rfl ?_
          refine k_aload (pc1 := 95) dX5_ask_93 rfl rfl ?_
          have hgm : gMt (xNG γ ow1 (f 2) m dl) (f 2) = m := if_pos rfl
          have b1 : aHs (xNA A (f 2) hs (kdf a.toNat (2 ^ hs.toNat))) (f 2) = hs := if_pos rfl
          have b2 : aAk (xNA A (f 2) hs (kdf a.toNat (2 ^ hs.toNat))) (f 2) = (kdf a.toNat (2 ^ hs.toNat)) := if_pos rfl
          have b3 : aYs (xNA A (f 2) hs (kdf a.toNat (2 ^ hs.toNat))) (f 2) = 0 := if_pos rfl
          have b4 : aNo (xNA A (f 2) hs (kdf a.toNat (2 ^ hs.toNat))) (f 2) = 0 := if_pos rfl
          have b5 : aMn (xNA A (f 2) hs (kdf a.toNat (2 ^ hs.toNat))) (f 2) = 0 := if_pos rfl
          have b6 : aLv (xNA A (f 2) hs (kdf a.toNat (2 ^ hs.toNat))) (f 2) := Or.inl rfl
          have hkq : (kdf a.toNat (2 ^ hs.toNat)) < 64 := kdf_lt hq9
          have tq : gOw (xNG γ ow1 (f 2) m dl) q = (0, 0) := hu1 q (tg q hqh) (fun y => by rw [y, hm4] at hq4; cases hq4) (fun y => by
            obtain ⟨⟨mcd, hd9⟩, -⟩ := hdl4
            rw [y, hd9] at hq4; cases hq4)
          have hcon := w_planD hl hCn (n := f 2) b6 (by rw [b1]; omega) (by rw [b2]; exact hkq) (by rw [b3]; decide) (by rw [b4]; decide) (ss := [q]) hL4 (by rw [b5]; exact (by decide : 1 ≤ 6)) (t := t) (ln := n) ⟨by omega, by omega⟩ ⟨by omega, by omega⟩ (K := fun _ => k) (fun _ _ => ⟨by omega, by omega⟩) (fun i x e => by
            have hi : i = 0 := by
              have := (List.getElem?_eq_some_iff.mp e).1
              rw [List.length_singleton] at this; omega
            rw [hi, List.getElem?_cons_zero] at e
            rw [← Option.some.inj e]
            exact ⟨hq4, tq⟩) (List.nodup_cons.mpr ⟨(fun y => nomatch y), List.nodup_nil⟩)
          rw [hgm] at hcon
          have eex : exM (aHs (xNA A (f 2) hs (kdf a.toNat (2 ^ hs.toNat))) (f 2)) (aAk (xNA A (f 2) hs (kdf a.toNat (2 ^ hs.toNat))) (f 2)) (aNo (xNA A (f 2) hs (kdf a.toNat (2 ^ hs.toNat))) (f 2)) = (a.toNat ||| 2 ^ hs.toNat) := by rw [b1, b2, b4]; exact ex_ask hq9 ⟨by omega, by omega⟩
          refine k_callV dX5_ask_95 rfl lk_RX5_90 o_X5_planDates (as := [.ref m, .ref sl]) rfl rfl hCn.1.1.1 rfl rfl hcon (by decide) (by decide) (by decide) (by decide) (k8 rfl) (fun v h5 hv => ?_) (fun E h9 z => kx_out rfl ?_)
          rotate_left
          · skip
            obtain ⟨hv1, f9, hcase, A9, hC9, hfr9⟩ := z
            subst hv1
            have hst : kSt G pl γ h h9 f9 := ⟨(xNG γ ow1 (f 2) m dl), A9, hC9, fun b e g1 g2 => ⟨hfr9 b e (hXh b e g1) (fun y => by rw [y, hC0.1.1.2] at g2; cases g2), hu1 b g2 (kne_new g1 hm) (kne_new g1 hdl)⟩⟩
            rcases hcase with ⟨i, hi, hb9, -, ef⟩ | ⟨hbn, i, hi, hs9, -, ef⟩
            · skip
              have hi0 : i = 0 := by rw [List.length_singleton] at hi; omega
              rw [eex] at hb9 ef
              subst ef
              exact kOn_mk (c := 3) (v := 0) (f' := rfF f 1 (bsyF f (-1) (-1) (a.toNat ||| 2 ^ hs.toNat) k t n)) (by unfold Task; first | exact kI_f (by omega) | (rw [kI_t (by omega)]; first | exact kI_t (by omega) | (rw [kI_f (by omega)]; first | exact kI_t (by omega) | (rw [kI_f (by omega)]; first | exact kI_t (by omega) | exact kI_f (by omega))))) (by decide) rfl hst
            · skip
              have hi0 : i = 0 := by rw [List.length_singleton] at hi; omega
              have hb0 := hbn 0 Nat.zero_lt_one
              rw [eex] at hb0 hs9
              rw [b5, hi0] at ef
              replace ef : f9 = rfF f 2 0 := ef
              subst ef
              exact kOn_mk (c := 3) (v := 0) (f' := rfF f 2 0) (by unfold Task; first | exact kI_f (by omega) | (rw [kI_t (by omega)]; first | exact kI_t (by omega) | (rw [kI_f (by omega)]; first | exact kI_t (by omega) | (rw [kI_f (by omega)]; first | exact kI_t (by omega) | exact kI_f (by omega))))) (by decide) rfl hst
          · skip
            obtain ⟨hv1, hbn, hsn, dg, sg, ow3, dx, hR5, hd5, hu5⟩ := hv
            subst hv1
            refine k_st (st' := []) rfl ?_
            have hb0 := hbn 0 Nat.zero_lt_one
            have hs0 := hsn 0 Nat.zero_lt_one
            rw [eex] at hb0 hs0
            have hm5 : ∃ vs : List Value, h5 m = some (.inr (6, vs)) := by
              have z := (hR5.2.2.2.2.2.2.1 (f 2) b6).2.1.1
              rw [show gMt (xDS (xNG γ ow1 (f 2) m dl) ow3 dg sg) (f 2) = m from hgm] at z
              exact ⟨_, z⟩
            obtain ⟨vs5, hm5⟩ := hm5
            refine k_aload_n (pc1 := 99) dX5_ask_98 rfl rfl ?_
            refine k_get (pc1 := 102) dX5_ask_99 rfl fd_RX5_28 hR5.1.1 (v := .ref (gMl γ)) rfl ?_
            refine k_aload (pc1 := 104) dX5_ask_102 rfl rfl ?_
            refine k_ged (fun hed5 => ?_)
            obtain ⟨-, ar5, c5, hMl5, har5⟩ := hR5.2.2.2.2.2.1
            replace hMl5 : kLs G h5 (gMl γ) ar5 c5 ((aMl A).map (gMt (xNG γ ow1 (f 2) m dl))) := hMl5
            obtain ⟨mc5, hMa5⟩ := hMl5.1
            have har6 : ow3 ar5 = (13, 0) ∨ h5 ar5 = none := by
              rcases har5 with ⟨y, -, -⟩ | y
              · exact Or.inr (by rw [y]; exact hed5)
              · exact Or.inl y
            have hEs : ∀ y ∈ (aMl A).map (gMt (xNG γ ow1 (f 2) m dl)), ∃ vs : List Value, h5 y = some (.inr (6, vs)) := fun y hy => by
              obtain ⟨i, hi, rfl⟩ := List.mem_map.mp hy
              rw [hC0.2.1.2.2.1] at hi
              obtain ⟨j, hj, rfl⟩ := List.mem_map.mp hi
              have hj2 := List.mem_range.mp hj
              exact ⟨_, (hR5.2.2.2.2.2.2.1 _ (Or.inr (hC0.2.1.2.2.2.1 (j : Int) (by omega) (by omega)).1)).2.1.1⟩
            have hml8 : (aMl A).length = (f 1).toNat := by rw [hC0.2.1.2.2.1, List.length_map, List.length_range]
            refine k_callV dX5_ask_104 rfl lk_RX5_86 o_Jx4a65c_add_9ea2d (as := [.ref m]) rfl rfl hMa5 rfl rfl (w_ladd hl hMl5 (by rw [List.length_map, hml8]; omega) (ci := 6) rfl (by decide) (by decide) hEs hm5) (by decide) (by decide) (by decide) (by decide) (k8 rfl) (fun v h6 hv => ?_) (fun E h9 z => z.elim)
            obtain ⟨hv1, hx6⟩ := hv
            subst hv1
            refine k_st (st' := [.int (iI 1)]) rfl ?_
            refine k_ged (fun hed6 => ?_)
            have emm : (aMl A).map (gMt (xNG γ ow1 (f 2) m dl)) ++ [m] = (aMl A ++ [f 2]).map (gMt (xNG γ ow1 (f 2) m dl)) := by rw [List.map_append]; show _ = _ ++ [gMt (xNG γ ow1 (f 2) m dl) (f 2)]; rw [hgm]
            rw [emm] at hx6
            obtain ⟨ow6, hR6, hu6⟩ := ra_ML (γ := xDS (xNG γ ow1 (f 2) m dl) ow3 dg sg) (A := (xMx (xDD (xNA A (f 2) hs (kdf a.toNat (2 ^ hs.toNat))) (kAdt (xNA A (f 2) hs (kdf a.toNat (2 ^ hs.toNat))) (f 2) (aMn (xNA A (f 2) hs (kdf a.toNat (2 ^ hs.toNat))) (f 2)) [q].length (fun _ => k) (fun j : Nat => smlF f (-1) (-1) (exM (aHs (xNA A (f 2) hs (kdf a.toNat (2 ^ hs.toNat))) (f 2)) (aAk (xNA A (f 2) hs (kdf a.toNat (2 ^ hs.toNat))) (f 2)) (aNo (xNA A (f 2) hs (kdf a.toNat (2 ^ hs.toNat))) (f 2))) ((fun _ => k) j) t n) t n) (aDx (xNA A (f 2) hs (kdf a.toNat (2 ^ hs.toNat))))) (f 2) (aMn (xNA A (f 2) hs (kdf a.toNat (2 ^ hs.toNat))) (f 2) + [q].length) dx)) (ms' := aMl A ++ [f 2]) hR5 hMl5 har6 hed6 hx6
            have hP6 := hR6.1.1
            obtain ⟨hM6, -⟩ := (hR6.2.2.2.2.2.2.1 (f 2) (Or.inl rfl)).2.1
            rw [show gMt (ow6, (xDS (xNG γ ow1 (f 2) m dl) ow3 dg sg).2) (f 2) = m from hgm] at hM6
            have esc := hC0.2.1.1
            replace hP6 : h6 pl = some (.inr (9, [.ref (gRa γ), .ref (gDa γ), .ref (gMl γ), .int (iI (aSc A 0)), .int (iI (f 2)), .int (iI (aSc A 2)), .int (iI (aSc A 3))])) := by rw [← esc.2.1]; exact hP6
            refine k_pop (pc1 := 108) dX5_ask_107 rfl rfl ?_
            refine k_aload_n (pc1 := 109) dX5_ask_108 rfl rfl ?_
            refine k_dup (pc1 := 110) dX5_ask_109 rfl rfl ?_
            refine k_get (pc1 := 113) dX5_ask_110 rfl fd_RX5_36 hP6 (v := .int (iI (f 2))) rfl ?_
            refine k_iconst (pc1 := 114) dX5_ask_113 rfl ?_
            refine k_iadd (a := (f 2)) (b := 1) (pc1 := 115) dX5_ask_114 rfl ?_
            refine k_put (pc1 := 118) dX5_ask_115 rfl fp_RX5_36 (Or.inl rfl) hP6 (Nat.le_of_ble_eq_true rfl) rfl rfl ?_
            obtain ⟨h63, eh63⟩ : ∃ z, z = kup h6 pl (.inr (9, [.ref (gRa γ), .ref (gDa γ), .ref (gMl γ), .int (iI (aSc A 0)), .int (iI ((f 2) + 1)), .int (iI (aSc A 2)), .int (iI (aSc A 3))])) := ⟨_, rfl⟩
            refine k_hp (h' := h63) eh63.symm ?_
            have hT63 : h63 pl = some (.inr (9, [.ref (gRa γ), .ref (gDa γ), .ref (gMl γ), .int (iI (aSc A 0)), .int (iI ((f 2) + 1)), .int (iI (aSc A 2)), .int (iI (aSc A 3))])) := by rw [eh63]; exact kup_same _ _ _
            have hG63 : ∀ b, b ≠ pl → h63 b = h6 b := fun b hb => by rw [eh63]; exact kup_ne hb
            clear eh63
            have hM7 := (hG63 _ (kne_ci hM6 hP6 (by decide))).trans hM6
            refine k_aload (pc1 := 120) dX5_ask_118 rfl rfl ?_
            refine k_get (pc1 := 123) dX5_ask_120 rfl fd_RX5_94 hM7 (v := .int (iI (f 2))) rfl ?_
            have hR7 := ra_P (sc := (fun i : Nat => if i = 1 then f 2 + 1 else aSc A i)) hR6 hG63 hT63
            have hw : kWf (askF f hs a.toNat k t n (smlF f (-1) (-1) (a.toNat ||| 2 ^ hs.toNat) k t n)) := by
              have z := wf_ask hC0.2.2 hnx9 hs a k t n
              rw [Task, kI_t (by omega), kI_f (by omega), kI_f (by omega), kI_f (by omega)] at z
              exact z
            have hL : kRl ((fun i : Nat => if i = 1 then f 2 + 1 else aSc A i), (xMl (xMx (xDD (xNA A (f 2) hs (kdf a.toNat (2 ^ hs.toNat))) (kAdt (xNA A (f 2) hs (kdf a.toNat (2 ^ hs.toNat))) (f 2) (aMn (xNA A (f 2) hs (kdf a.toNat (2 ^ hs.toNat))) (f 2)) [q].length (fun _ => k) (fun j : Nat => smlF f (-1) (-1) (exM (aHs (xNA A (f 2) hs (kdf a.toNat (2 ^ hs.toNat))) (f 2)) (aAk (xNA A (f 2) hs (kdf a.toNat (2 ^ hs.toNat))) (f 2)) (aNo (xNA A (f 2) hs (kdf a.toNat (2 ^ hs.toNat))) (f 2))) ((fun _ => k) j) t n) t n) (aDx (xNA A (f 2) hs (kdf a.toNat (2 ^ hs.toNat))))) (f 2) (aMn (xNA A (f 2) hs (kdf a.toNat (2 ^ hs.toNat))) (f 2) + [q].length) dx) (aMl A ++ [f 2])).2) (askF f hs a.toNat k t n (smlF f (-1) (-1) (a.toNat ||| 2 ^ hs.toNat) k t n)) := by
              refine rl_ask hC0 hq9 ⟨by omega, by omega⟩ ⟨esc.1, rfl, esc.2.2.1, esc.2.2.2⟩ (fun i hi => ⟨if_neg hi, if_neg hi, if_neg hi, if_neg hi, (if_neg hi).trans (if_neg hi), fun y => Or.inr y, fun d w => (kAdt_ne (A := (xNA A (f 2) hs (kdf a.toNat (2 ^ hs.toNat)))) (fun y => hi y.1) : kAdt (xNA A (f 2) hs (kdf a.toNat (2 ^ hs.toNat))) (f 2) (aMn (xNA A (f 2) hs (kdf a.toNat (2 ^ hs.toNat))) (f 2)) [q].length (fun _ => k) (fun j : Nat => smlF f (-1) (-1) (exM (aHs (xNA A (f 2) hs (kdf a.toNat (2 ^ hs.toNat))) (f 2)) (aAk (xNA A (f 2) hs (kdf a.toNat (2 ^ hs.toNat))) (f 2)) (aNo (xNA A (f 2) hs (kdf a.toNat (2 ^ hs.toNat))) (f 2))) ((fun _ => k) j) t n) t n i d w = aDt (xNA A (f 2) hs (kdf a.toNat (2 ^ hs.toNat))) i d w)⟩) ⟨if_pos rfl, if_pos rfl, if_pos rfl, if_pos rfl, (if_pos rfl).trans (show aMn (xNA A (f 2) hs (kdf a.toNat (2 ^ hs.toNat))) (f 2) + [q].length = 1 by rw [b5]; rfl), Or.inl rfl⟩ ?_ (fun k' k0 k1 => ?_)
              · have z := kAdt_at (A := (xNA A (f 2) hs (kdf a.toNat (2 ^ hs.toNat)))) (n := f 2) (c := aMn (xNA A (f 2) hs (kdf a.toNat (2 ^ hs.toNat))) (f 2)) (e := [q].length) (K := fun _ => k) (S := fun j : Nat => smlF f (-1) (-1) (exM (aHs (xNA A (f 2) hs (kdf a.toNat (2 ^ hs.toNat))) (f 2)) (aAk (xNA A (f 2) hs (kdf a.toNat (2 ^ hs.toNat))) (f 2)) (aNo (xNA A (f 2) hs (kdf a.toNat (2 ^ hs.toNat))) (f 2))) ((fun _ => k) j) t n) (t := t) (ln := n) (x := 0) Nat.zero_lt_one
                have e0 : ((aMn (xNA A (f 2) hs (kdf a.toNat (2 ^ hs.toNat))) (f 2) : Nat) : Int) + ((0 : Nat) : Int) = 0 := by rw [b5]; rfl
                rw [e0] at z
                refine ⟨z.1, z.2.1, z.2.2.1, z.2.2.2.1.trans ?_, z.2.2.2.2⟩
                show smlF f (-1) (-1) (exM (aHs (xNA A (f 2) hs (kdf a.toNat (2 ^ hs.toNat))) (f 2)) (aAk (xNA A (f 2) hs (kdf a.toNat (2 ^ hs.toNat))) (f 2)) (aNo (xNA A (f 2) hs (kdf a.toNat (2 ^ hs.toNat))) (f 2))) k t n = _
                rw [eex]
              · obtain ⟨u1, u2⟩ := hd5 k' k0 k1
                refine ⟨u1.1, u1.2.2.1, fun x => (u2 x).trans ⟨?_, ?_⟩⟩
                · rintro (y | ⟨j, hj, y1, y2⟩)
                  · exact Or.inl y
                  · have hj0 : j = 0 := by rw [List.length_singleton] at hj; omega
                    rw [b5, hj0] at y1
                    exact Or.inr ⟨y1, y2⟩
                · rintro (y | ⟨y1, y2⟩)
                  · exact Or.inl y
                  · exact Or.inr ⟨0, Nat.zero_lt_one, by rw [b5]; exact y1, y2⟩
            exact k_iret dX5_ask_123 rfl rfl (kOy_mk (v := f 2) (f' := (askF f hs a.toNat k t n (smlF f (-1) (-1) (a.toNat ||| 2 ^ hs.toNat) k t n))) (by unfold Task; first | exact kI_f (by omega) | (rw [kI_t (by omega)]; first | exact kI_t (by omega) | (rw [kI_f (by omega)]; first | exact kI_t (by omega) | (rw [kI_f (by omega)]; first | exact kI_t (by omega) | exact kI_f (by omega))))) ⟨_, _, ⟨hR7, hL, hw⟩, fun b e g1 g2 => by
              have u5 := hu5 b e (hXh b e g1) (hu1 b g2 (kne_new g1 hm) (kne_new g1 hdl)) (fun y => kne_new g1 hqh (List.mem_singleton.mp y))
              have u6 := hu6 b e u5.1 u5.2
              exact ⟨(hG63 b (fun y => by rw [y, hC0.1.1.2] at g2; cases g2)).trans u6.1, u6.2⟩⟩)
        · skip
          exact k_throw 34 35 37 40 rfl dX5_ask_31 dX5_ask_34 dX5_ask_35 dX5_ask_37 dX5_ask_40 rfl rfl rfl rfl rfl (by decide) (by decide) cl_RX5_69 ini_IllegalStateException (text := "there are 8 meetings") (by decide +kernel) at_RX5_73 (k8 rfl) (by decide) (by decide) (kOn_mk (c := 2) (v := 0) (f' := f) (by unfold Task; first | exact kI_f (by omega) | (rw [kI_t (by omega)]; first | exact kI_t (by omega) | (rw [kI_f (by omega)]; first | exact kI_t (by omega) | (rw [kI_f (by omega)]; first | exact kI_t (by omega) | exact kI_f (by omega))))) (by decide) rfl (kSt_rf hC))
      · skip
        refine k_callS dX5_ask_16 rfl rfl lk_RX5_62 o_X5_requireSlot (as := [.int (iI k), .int (iI t), .int (iI n)]) rfl rfl (w_rsN hl (by omega) (by omega) (by omega) hq16) (by decide) (by decide) (by decide) (by decide) (k8 rfl) (fun v h9 z => z.elim) (fun E h9 z => kx_out rfl ?_)
        obtain ⟨hv1, hv2⟩ := z
        subst hv1
        rw [hv2]
        exact (kOn_mk (c := 1) (v := 0) (f' := f) (by unfold Task; first | exact kI_f (by omega) | (rw [kI_t (by omega)]; first | exact kI_t (by omega) | (rw [kI_f (by omega)]; first | exact kI_t (by omega) | (rw [kI_f (by omega)]; first | exact kI_t (by omega) | exact kI_f (by omega))))) (by decide) rfl (kSt_rf hC))
    · skip
      refine k_callS dX5_ask_8 rfl rfl lk_RX5_49 o_X5_requireWithin (as := [.int (iI a), .int (iI 0), .int (iI 63)]) rfl rfl (w_rwN hl (by omega) (by decide) (by decide) hq8) (by decide) (by decide) (by decide) (by decide) (k8 rfl) (fun v h9 z => z.elim) (fun E h9 z => kx_out rfl ?_)
      obtain ⟨hv1, hv2⟩ := z
      subst hv1
      rw [hv2]
      exact (kOn_mk (c := 1) (v := 0) (f' := f) (by unfold Task; first | exact kI_f (by omega) | (rw [kI_t (by omega)]; first | exact kI_t (by omega) | (rw [kI_f (by omega)]; first | exact kI_t (by omega) | (rw [kI_f (by omega)]; first | exact kI_t (by omega) | exact kI_f (by omega))))) (by decide) rfl (kSt_rf hC))
  · skip
    refine k_callS dX5_ask_1 rfl rfl lk_RX5_58 o_X5_requirePerson (as := [.int (iI hs)]) rfl rfl (w_rpN hl (by omega) hq1) (by decide) (by decide) (by decide) (by decide) (k8 rfl) (fun v h9 z => z.elim) (fun E h9 z => kx_out rfl ?_)
    obtain ⟨hv1, hv2⟩ := z
    subst hv1
    rw [hv2]
    exact (kOn_mk (c := 1) (v := 0) (f' := f) (by unfold Task; first | exact kI_f (by omega) | (rw [kI_t (by omega)]; first | exact kI_t (by omega) | (rw [kI_f (by omega)]; first | exact kI_t (by omega) | (rw [kI_f (by omega)]; first | exact kI_t (by omega) | exact kI_f (by omega))))) (by decide) rfl (kSt_rf hC))
