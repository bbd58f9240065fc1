/-! ===== the law: its other cases, its loop ===== -/
theorem l9_od {G : kG} {h h1 : kAH} {pl o g r ol od : Nat} {γ : kGh} {A : kAb} {f : Nat → Int} {c : Int} {F : Nat → Int64} {D D1 : Nat → UInt64} (q : kLs9 G h pl o g r ol od γ A f c F D) (hT : h1 od = some (kdo G 1 D1)) (hf : ∀ b, b ≠ od → h1 b = h b) : kLs9 G h1 pl o g r ol od γ A f c F D1 := by
  obtain ⟨q0, ⟨m1, m2, rr, m3⟩, ⟨t1, t2, t3, t4, t5⟩, q1, q2⟩ := q
  refine ⟨rp_un q0 (fun b e hb h0 => (hf b (fun y => h0 (by rw [y]; exact t5))).trans hb) (fun b hb => by rw [← hf b (fun y => by rw [y, hT] at hb; cases hb)]; exact hb), ⟨(hf o (kne_or m1 q2)).trans m1, (hf g (Ne.symm (kne_dg q2 m2))).trans m2, rr, (hf r (Ne.symm (kne_dg q2 m3))).trans m3⟩, ⟨t1, t2, t3, t4, t5⟩, (hf ol (kne_ld q1 q2)).trans q1, hT⟩
theorem and63_ex (a : Int32) : ∃ z : Int, 0 ≤ z ∧ z < 64 ∧ a &&& iI 63 = iI z := by
  refine ⟨((a &&& iI 63).toBitVec.toNat : Int), by omega, ?_, ?_⟩
  · have h : (a &&& iI 63).toBitVec = a.toBitVec &&& 63#32 := by
      rw [Int32.toBitVec_and]
      rfl
    rw [h, BitVec.toNat_and]
    have : a.toBitVec.toNat &&& (63#32 : BitVec 32).toNat ≤ (63#32 : BitVec 32).toNat := Nat.and_le_right
    have e : (63#32 : BitVec 32).toNat = 63 := rfl
    omega
  · apply Int32.toBitVec_inj.mp
    show (a &&& iI 63).toBitVec = BitVec.ofInt 32 ((a &&& iI 63).toBitVec.toNat : Int)
    rw [BitVec.ofInt_natCast]
    apply BitVec.eq_of_toNat_eq
    rw [BitVec.toNat_ofNat, Nat.mod_eq_of_lt (BitVec.isLt _)]
theorem lc_meetingCount {l : Launch} {G : kG} {h : kAH} (hl : l.stackTraces = false) {pl o g r ol od : Nat} {γ : kGh} {A : kAb} {f : Nat → Int} {c9 : Int} {F9 : Nat → Int64} {D9 : Nat → UInt64} (hq : kLs9 G h pl o g r ol od γ A f c9 F9 D9) (hnx9 : f 2 < 1000000) (hsr : ∀ j : Nat, -2147483648 ≤ kScF G j ∧ kScF G j < 2147483648) {i : Nat} (hi6 : i + 6 ≤ kScL G) (hN9 : kScL G ≤ 1000000) {Φ : Option Value → kAH → Prop} {k n : Nat} (IH : ∀ (h' : kAH) (γ' : kGh) (A' : kAb) (f' : Nat → Int) (c' : Int) (F' : Nat → Int64) (D' : Nat → UInt64), kLs9 G h' pl o g r ol od γ' A' f' c' F' D' → f' 2 ≤ f 2 + 1 → kW l G m_L_law 12 Φ kNo k n 2523 [some (.ref (kScB G)), some (.ref pl), some (.ref o), some (.ref ol), some (.ref od), some (.int (iI ((i : Nat) : Int))), none, none, none] [] h') : kW l G m_L_law 12 Φ kNo (k + 40) (n + 4800) 934 [some (.ref (kScB G)), some (.ref pl), some (.ref o), some (.ref ol), some (.ref od), some (.int (iI ((i : Nat) : Int))), none, none, none] [] h := by
  have hC := hq.1
  have h8 := kWf_cnt hC.2.2
  refine k_aload_n (pc1 := 935) dL_law_934 rfl rfl ?_
  refine k_callV dL_law_935 rfl lk_RL_177 o_X5_meetingCount (as := []) rfl rfl (rp_P hC) rfl rfl (w_X5_meetingCount hl hC) (by decide) (by decide) (by omega) (by omega) (k8 rfl) (fun v h1 hv => ?_) (fun E h9 z => (z.1 rfl).elim)
  obtain ⟨t0, hv1, γ1, A1, hC1, hfr1⟩ := hv
  subst hv1
  refine k_st (st' := [.int (iI (f 1))]) rfl ?_
  obtain ⟨hO1, hO2⟩ := hfr1 ol _ hq.2.2.2.1 hq.2.2.1.2.2.2.1
  obtain ⟨hM1, ht1, hD1⟩ := l9_call hq hC1 hO1 hO2 (fun b e g1 g2 _ => hfr1 b e g1 g2)
  refine k_aload_n (pc1 := 939) dL_law_938 rfl rfl ?_
  refine k_callV dL_law_939 rfl lk_RL_180 o_X6_meetingCount (as := []) rfl rfl hM1.1 rfl rfl (w_X6_meetingCount hl hM1 hC.2.2) (by decide) (by decide) (Nat.zero_le _) (Nat.zero_le _) (k8 rfl) (fun v h2 hv => ?_) (fun E h9 z => z.elim)
  obtain ⟨hv1, hM2, hF2⟩ := hv
  rw [hv1]
  refine k_st (st' := [.int (iI (f 1)), .int (iI (f 1))]) rfl ?_
  have hst9 := l9_ref hC1 hM1 ht1 hO1 hD1 hM2 hF2.w
  refine k_icmp_eq (a := (f 1)) (b := (f 1)) dL_law_942 rfl (tgt := 2523) rfl (by omega) (by omega) (fun _ => ?_) (fun c => absurd rfl c)
  exact k_widen (by omega) (by omega) (IH _ _ _ _ _ _ _ hst9 (show f 2 ≤ f 2 + 1 by omega))
theorem lc_isConsistent {l : Launch} {G : kG} {h : kAH} (hl : l.stackTraces = false) {pl o g r ol od : Nat} {γ : kGh} {A : kAb} {f : Nat → Int} {c9 : Int} {F9 : Nat → Int64} {D9 : Nat → UInt64} (hq : kLs9 G h pl o g r ol od γ A f c9 F9 D9) (hnx9 : f 2 < 1000000) (hsr : ∀ j : Nat, -2147483648 ≤ kScF G j ∧ kScF G j < 2147483648) {i : Nat} (hi6 : i + 6 ≤ kScL G) (hN9 : kScL G ≤ 1000000) {Φ : Option Value → kAH → Prop} {k n : Nat} (IH : ∀ (h' : kAH) (γ' : kGh) (A' : kAb) (f' : Nat → Int) (c' : Int) (F' : Nat → Int64) (D' : Nat → UInt64), kLs9 G h' pl o g r ol od γ' A' f' c' F' D' → f' 2 ≤ f 2 + 1 → kW l G m_L_law 12 Φ kNo k n 2523 [some (.ref (kScB G)), some (.ref pl), some (.ref o), some (.ref ol), some (.ref od), some (.int (iI ((i : Nat) : Int))), none, none, none] [] h') : kW l G m_L_law 12 Φ kNo (k + 40) (n + 4800) 2510 [some (.ref (kScB G)), some (.ref pl), some (.ref o), some (.ref ol), some (.ref od), some (.int (iI ((i : Nat) : Int))), none, none, none] [] h := by
  have hC := hq.1
  have h8 := kWf_cnt hC.2.2
  refine k_aload_n (pc1 := 2511) dL_law_2510 rfl rfl ?_
  refine k_callV dL_law_2511 rfl lk_RL_257 o_X5_isConsistent (as := []) rfl rfl (rp_P hC) rfl rfl (w_X5_isConsistent hl hC) (by decide) (by decide) (by omega) (by omega) (k8 rfl) (fun v h1 hv => ?_) (fun E h9 z => (z.1 rfl).elim)
  obtain ⟨t0, hv1, γ1, A1, hC1, hfr1⟩ := hv
  subst hv1
  refine k_st (st' := [.int (iI 1)]) rfl ?_
  obtain ⟨hO1, hO2⟩ := hfr1 ol _ hq.2.2.2.1 hq.2.2.1.2.2.2.1
  obtain ⟨hM1, ht1, hD1⟩ := l9_call hq hC1 hO1 hO2 (fun b e g1 g2 _ => hfr1 b e g1 g2)
  refine k_aload_n (pc1 := 2515) dL_law_2514 rfl rfl ?_
  refine k_callV dL_law_2515 rfl lk_RL_261 o_X6_isConsistent (as := []) rfl rfl hM1.1 rfl rfl (w_X6_isConsistent hl hM1 hC.2.2) (by decide) (by decide) (Nat.zero_le _) (Nat.zero_le _) (k8 rfl) (fun v h2 hv => ?_) (fun E h9 z => z.elim)
  obtain ⟨hv1, hM2, hF2⟩ := hv
  rw [hv1]
  refine k_st (st' := [.int (iI 1), .int (iI 1)]) rfl ?_
  have hst9 := l9_ref hC1 hM1 ht1 hO1 hD1 hM2 hF2.w
  refine k_icmp_eq (a := 1) (b := 1) dL_law_2518 rfl (tgt := 2523) rfl (by omega) (by omega) (fun _ => ?_) (fun c => absurd rfl c)
  exact k_widen (by omega) (by omega) (IH _ _ _ _ _ _ _ hst9 (show f 2 ≤ f 2 + 1 by omega))
theorem lc_sittings {l : Launch} {G : kG} {h : kAH} (hl : l.stackTraces = false) {pl o g r ol od : Nat} {γ : kGh} {A : kAb} {f : Nat → Int} {c9 : Int} {F9 : Nat → Int64} {D9 : Nat → UInt64} (hq : kLs9 G h pl o g r ol od γ A f c9 F9 D9) (hnx9 : f 2 < 1000000) (hsr : ∀ j : Nat, -2147483648 ≤ kScF G j ∧ kScF G j < 2147483648) {i : Nat} (hi6 : i + 6 ≤ kScL G) (hN9 : kScL G ≤ 1000000) {Φ : Option Value → kAH → Prop} {k n : Nat} (IH : ∀ (h' : kAH) (γ' : kGh) (A' : kAb) (f' : Nat → Int) (c' : Int) (F' : Nat → Int64) (D' : Nat → UInt64), kLs9 G h' pl o g r ol od γ' A' f' c' F' D' → f' 2 ≤ f 2 + 1 → kW l G m_L_law 12 Φ kNo k n 2523 [some (.ref (kScB G)), some (.ref pl), some (.ref o), some (.ref ol), some (.ref od), some (.int (iI ((i : Nat) : Int))), none, none, none] [] h') : kW l G m_L_law 12 Φ kNo (k + 40) (n + 4800) 2365 [some (.ref (kScB G)), some (.ref pl), some (.ref o), some (.ref ol), some (.ref od), some (.int (iI ((i : Nat) : Int))), none, none, none] [] h := by
  have hC := hq.1
  have h8 := kWf_cnt hC.2.2
  refine k_aload_n (pc1 := 2366) dL_law_2365 rfl rfl ?_
  refine k_callVP dL_law_2366 rfl lk_RL_245 o_X5_sittings (w_X5_sittings hl hC) (as := []) (rp_P hC) rfl rfl rfl rfl (by decide) (by decide) (k8 rfl) ?_
  refine k_aload_n (pc1 := 2370) dL_law_2369 rfl rfl ?_
  refine k_callV dL_law_2370 rfl lk_RL_249 o_X6_sittings (as := []) rfl rfl hq.2.1.1 rfl rfl (w_X6_sittings hl hq.2.1 hC.2.2) (by decide) (by decide) (Nat.zero_le _) (Nat.zero_le _) (k8 rfl) (fun v h2 hv => ?_) (fun E h9 z => z.elim)
  obtain ⟨hv1, hM2, hF2⟩ := hv
  rw [hv1]
  refine k_st (st' := [.long (Int32.toInt64 (iI (stF f))), .long (Int32.toInt64 (iI (stF f)))]) rfl ?_
  have hst9 := l9_ref hq.1 hq.2.1 hq.2.2.1 hq.2.2.2.1 hq.2.2.2.2 hM2 hF2.w
  refine k_lcmpE (pc1 := 2374) dL_law_2373 rfl rfl ?_
  refine k_if_eq (a := 0) dL_law_2374 rfl (tgt := 2523) rfl (by decide) (fun _ => ?_) (fun c => absurd c (by decide))
  exact k_widen (by omega) (by omega) (IH _ _ _ _ _ _ _ hst9 (show f 2 ≤ f 2 + 1 by omega))
theorem lc_meanExpected {l : Launch} {G : kG} {h : kAH} (hl : l.stackTraces = false) {pl o g r ol od : Nat} {γ : kGh} {A : kAb} {f : Nat → Int} {c9 : Int} {F9 : Nat → Int64} {D9 : Nat → UInt64} (hq : kLs9 G h pl o g r ol od γ A f c9 F9 D9) (hnx9 : f 2 < 1000000) (hsr : ∀ j : Nat, -2147483648 ≤ kScF G j ∧ kScF G j < 2147483648) {i : Nat} (hi6 : i + 6 ≤ kScL G) (hN9 : kScL G ≤ 1000000) {Φ : Option Value → kAH → Prop} {k n : Nat} (IH : ∀ (h' : kAH) (γ' : kGh) (A' : kAb) (f' : Nat → Int) (c' : Int) (F' : Nat → Int64) (D' : Nat → UInt64), kLs9 G h' pl o g r ol od γ' A' f' c' F' D' → f' 2 ≤ f 2 + 1 → kW l G m_L_law 12 Φ kNo k n 2523 [some (.ref (kScB G)), some (.ref pl), some (.ref o), some (.ref ol), some (.ref od), some (.int (iI ((i : Nat) : Int))), none, none, none] [] h') : kW l G m_L_law 12 Φ kNo (k + 40) (n + 4800) 2379 [some (.ref (kScB G)), some (.ref pl), some (.ref o), some (.ref ol), some (.ref od), some (.int (iI ((i : Nat) : Int))), none, none, none] [] h := by
  have hC := hq.1
  have h8 := kWf_cnt hC.2.2
  have hmr : 0 * (((f 1).toNat : Nat) : Int) ≤ mxF f ∧ mxF f ≤ 6 * (((f 1).toNat : Nat) : Int) := ksm_rng (fun j _ => kpo_rng _ 6)
  by_cases hc9 : f 1 = 0
  · skip
    refine k_aload_n (pc1 := 2380) dL_law_2379 rfl rfl ?_
    refine k_aload (pc1 := 2382) dL_law_2380 rfl rfl ?_
    refine k_callSX dL_law_2382 rfl rfl lk_RL_250 o_L_meanExpected (as := [.ref pl, .ref od]) rfl rfl (w_L_meanExpectedT hl hC hq.2.2.2.2 hc9) (by decide) (by decide) (by omega) (by omega) (k8 rfl) (fun v h1 hv => ?_) (fun E h9 z => z.elim)
    obtain ⟨hv1, hv2⟩ := hv
    subst hv1
    rw [hv2]
    refine k_st (st' := [.int (iI 1)]) rfl ?_
    refine k_istore (pc1 := 2387) dL_law_2385 rfl (by decide) (k_loc (L' := [some (.ref (kScB G)), some (.ref pl), some (.ref o), some (.ref ol), some (.ref od), some (.int (iI ((i : Nat) : Int))), some (.int (iI 1)), none, none]) rfl ?_)
    refine k_aload_n (pc1 := 2388) dL_law_2387 rfl rfl ?_
    refine k_callV dL_law_2388 rfl lk_RL_253 o_X6_meanExpected (as := []) rfl rfl hq.2.1.1 rfl rfl (w_X6_meanExpectedT hl hq.2.1 hC.2.2 hc9) (by decide) (by decide) (Nat.zero_le _) (Nat.zero_le _) (k8 rfl) (fun v h2 hv => ?_) (fun E h9 z => z.elim)
    obtain ⟨hv1, hM2, hF2⟩ := hv
    rw [hv1]
    refine k_st (st' := [.double 0]) rfl ?_
    have hst9 := l9_ref hq.1 hq.2.1 hq.2.2.1 hq.2.2.2.1 hq.2.2.2.2 hM2 hF2.w
    refine k_dstore (pc1 := 2393) dL_law_2391 rfl (by decide) (k_loc (L' := [some (.ref (kScB G)), some (.ref pl), some (.ref o), some (.ref ol), some (.ref od), some (.int (iI ((i : Nat) : Int))), some (.int (iI 1)), some (.double 0), none]) rfl ?_)
    refine k_aload_n (pc1 := 2394) dL_law_2393 rfl rfl ?_
    refine k_callVP dL_law_2394 rfl lk_RL_142 o_X6_thrown (w_thr hl hM2) (as := []) hM2.1 rfl rfl rfl rfl (by decide) (by decide) (k8 rfl) ?_
    refine k_iload (pc1 := 2399) dL_law_2397 rfl rfl ?_
    refine k_icmp_eq (a := 1) (b := 1) dL_law_2399 rfl (tgt := 2404) rfl (by omega) (by omega) (fun _ => ?_) (fun c => absurd rfl c)
    refine k_iload (pc1 := 2406) dL_law_2404 rfl rfl ?_
    refine k_if_ne (a := 1) dL_law_2406 rfl (tgt := 2441) rfl (by decide) (fun _ => ?_) (fun c => absurd c (by decide))
    refine k_goto dL_law_2441 (tgt := 2523) rfl ?_
    refine k_forget 6 (k_loc (L' := [some (.ref (kScB G)), some (.ref pl), some (.ref o), some (.ref ol), some (.ref od), some (.int (iI ((i : Nat) : Int))), none, some (.double 0), none]) rfl ?_)
    refine k_forget 7 (k_loc (L' := [some (.ref (kScB G)), some (.ref pl), some (.ref o), some (.ref ol), some (.ref od), some (.int (iI ((i : Nat) : Int))), none, none, none]) rfl ?_)
    exact k_widen (by omega) (by omega) (IH _ _ _ _ _ _ _ hst9 (show f 2 ≤ f 2 + 1 by omega))
  · skip
    refine k_aload_n (pc1 := 2380) dL_law_2379 rfl rfl ?_
    refine k_aload (pc1 := 2382) dL_law_2380 rfl rfl ?_
    refine k_callSX dL_law_2382 rfl rfl lk_RL_250 o_L_meanExpected (as := [.ref pl, .ref od]) rfl rfl (w_L_meanExpectedF hl hC hq.2.2.2.2 hc9) (by decide) (by decide) (by omega) (by omega) (k8 rfl) (fun v h1 hv => ?_) (fun E h9 z => z.elim)
    obtain ⟨hv1, ⟨F1, hD1, hX1⟩, hfr1⟩ := hv
    subst hv1
    refine k_st (st' := [.int (iI 0)]) rfl ?_
    have hq1 := l9_od hq hD1 hfr1
    refine k_istore (pc1 := 2387) dL_law_2385 rfl (by decide) (k_loc (L' := [some (.ref (kScB G)), some (.ref pl), some (.ref o), some (.ref ol), some (.ref od), some (.int (iI ((i : Nat) : Int))), some (.int (iI 0)), none, none]) rfl ?_)
    refine k_aload_n (pc1 := 2388) dL_law_2387 rfl rfl ?_
    refine k_callV dL_law_2388 rfl lk_RL_253 o_X6_meanExpected (as := []) rfl rfl hq1.2.1.1 rfl rfl (w_X6_meanExpectedF hl hq1.2.1 hC.2.2 hc9) (by decide) (by decide) (Nat.zero_le _) (Nat.zero_le _) (k8 rfl) (fun v h2 hv => ?_) (fun E h9 z => z.elim)
    obtain ⟨hv1, hM2, hF2⟩ := hv
    rw [hv1]
    refine k_st (st' := [.double (FP.ddiv (FP.i2d (iI (mxF f))) (FP.i2d (iI (f 1))))]) rfl ?_
    have hst9 := l9_ref hq1.1 hq1.2.1 hq1.2.2.1 hq1.2.2.2.1 hq1.2.2.2.2 hM2 hF2.w
    refine k_dstore (pc1 := 2393) dL_law_2391 rfl (by decide) (k_loc (L' := [some (.ref (kScB G)), some (.ref pl), some (.ref o), some (.ref ol), some (.ref od), some (.int (iI ((i : Nat) : Int))), some (.int (iI 0)), some (.double (FP.ddiv (FP.i2d (iI (mxF f))) (FP.i2d (iI (f 1))))), none]) rfl ?_)
    refine k_aload_n (pc1 := 2394) dL_law_2393 rfl rfl ?_
    refine k_callVP dL_law_2394 rfl lk_RL_142 o_X6_thrown (w_thr hl hM2) (as := []) hM2.1 rfl rfl rfl rfl (by decide) (by decide) (k8 rfl) ?_
    refine k_iload (pc1 := 2399) dL_law_2397 rfl rfl ?_
    refine k_icmp_eq (a := 0) (b := 0) dL_law_2399 rfl (tgt := 2404) rfl (by omega) (by omega) (fun _ => ?_) (fun c => absurd rfl c)
    refine k_iload (pc1 := 2406) dL_law_2404 rfl rfl ?_
    refine k_if_ne (a := 0) dL_law_2406 rfl (tgt := 2441) rfl (by decide) (fun c => absurd c (by decide)) (fun _ => ?_)
    refine k_aload (pc1 := 2411) dL_law_2409 rfl rfl ?_
    refine k_iconst (pc1 := 2412) dL_law_2411 rfl ?_
    refine k_dald (i := 0) (pc1 := 2413) dL_law_2412 rfl hst9.2.2.2.2 (by decide) (by decide) (by decide) (k_val (v' := .double (FP.ddiv (FP.i2d (iI (mxF f))) (FP.i2d (iI (f 1))))) (congrArg Value.double hX1) ?_)
    refine k_dload (pc1 := 2415) dL_law_2413 rfl rfl ?_
    refine k_dcmp (pc1 := 2416) dL_law_2415 rfl (k_val (v' := .int (iI 0)) (by rw [fp_d2 (s := mxF f) (n := f 1) (by omega) (by omega)]; rfl) ?_)
    refine k_if_eq (a := 0) dL_law_2416 rfl (tgt := 2441) rfl (by decide) (fun _ => ?_) (fun c => absurd c (by decide))
    refine k_goto dL_law_2441 (tgt := 2523) rfl ?_
    refine k_forget 6 (k_loc (L' := [some (.ref (kScB G)), some (.ref pl), some (.ref o), some (.ref ol), some (.ref od), some (.int (iI ((i : Nat) : Int))), none, some (.double (FP.ddiv (FP.i2d (iI (mxF f))) (FP.i2d (iI (f 1))))), none]) rfl ?_)
    refine k_forget 7 (k_loc (L' := [some (.ref (kScB G)), some (.ref pl), some (.ref o), some (.ref ol), some (.ref od), some (.int (iI ((i : Nat) : Int))), none, none, none]) rfl ?_)
    exact k_widen (by omega) (by omega) (IH _ _ _ _ _ _ _ hst9 (show f 2 ≤ f 2 + 1 by omega))
theorem lc_yesShare {l : Launch} {G : kG} {h : kAH} (hl : l.stackTraces = false) {pl o g r ol od : Nat} {γ : kGh} {A : kAb} {f : Nat → Int} {c9 : Int} {F9 : Nat → Int64} {D9 : Nat → UInt64} (hq : kLs9 G h pl o g r ol od γ A f c9 F9 D9) (hnx9 : f 2 < 1000000) (hsr : ∀ j : Nat, -2147483648 ≤ kScF G j ∧ kScF G j < 2147483648) {i : Nat} (hi6 : i + 6 ≤ kScL G) (hN9 : kScL G ≤ 1000000) {Φ : Option Value → kAH → Prop} {k n : Nat} (IH : ∀ (h' : kAH) (γ' : kGh) (A' : kAb) (f' : Nat → Int) (c' : Int) (F' : Nat → Int64) (D' : Nat → UInt64), kLs9 G h' pl o g r ol od γ' A' f' c' F' D' → f' 2 ≤ f 2 + 1 → kW l G m_L_law 12 Φ kNo k n 2523 [some (.ref (kScB G)), some (.ref pl), some (.ref o), some (.ref ol), some (.ref od), some (.int (iI ((i : Nat) : Int))), none, none, none] [] h') : kW l G m_L_law 12 Φ kNo (k + 40) (n + 4800) 2444 [some (.ref (kScB G)), some (.ref pl), some (.ref o), some (.ref ol), some (.ref od), some (.int (iI ((i : Nat) : Int))), none, none, none] [] h := by
  have hC := hq.1
  have h8 := kWf_cnt hC.2.2
  have hyr := ysF_r (f := f) h8
  by_cases hc9 : alF f = 0
  · skip
    refine k_aload_n (pc1 := 2445) dL_law_2444 rfl rfl ?_
    refine k_aload (pc1 := 2447) dL_law_2445 rfl rfl ?_
    refine k_callSX dL_law_2447 rfl rfl lk_RL_254 o_L_yesShare (as := [.ref pl, .ref od]) rfl rfl (w_L_yesShareT hl hC hq.2.2.2.2 hc9) (by decide) (by decide) (by omega) (by omega) (k8 rfl) (fun v h1 hv => ?_) (fun E h9 z => z.elim)
    obtain ⟨hv1, hv2⟩ := hv
    subst hv1
    rw [hv2]
    refine k_st (st' := [.int (iI 1)]) rfl ?_
    refine k_istore (pc1 := 2452) dL_law_2450 rfl (by decide) (k_loc (L' := [some (.ref (kScB G)), some (.ref pl), some (.ref o), some (.ref ol), some (.ref od), some (.int (iI ((i : Nat) : Int))), some (.int (iI 1)), none, none]) rfl ?_)
    refine k_aload_n (pc1 := 2453) dL_law_2452 rfl rfl ?_
    refine k_callV dL_law_2453 rfl lk_RL_256 o_X6_yesShare (as := []) rfl rfl hq.2.1.1 rfl rfl (w_X6_yesShareT hl hq.2.1 hC.2.2 hc9) (by decide) (by decide) (Nat.zero_le _) (Nat.zero_le _) (k8 rfl) (fun v h2 hv => ?_) (fun E h9 z => z.elim)
    obtain ⟨hv1, hM2, hF2⟩ := hv
    rw [hv1]
    refine k_st (st' := [.float 0]) rfl ?_
    have hst9 := l9_ref hq.1 hq.2.1 hq.2.2.1 hq.2.2.2.1 hq.2.2.2.2 hM2 hF2.w
    refine k_fstore (pc1 := 2458) dL_law_2456 rfl (by decide) (k_loc (L' := [some (.ref (kScB G)), some (.ref pl), some (.ref o), some (.ref ol), some (.ref od), some (.int (iI ((i : Nat) : Int))), some (.int (iI 1)), some (.float 0), none]) rfl ?_)
    refine k_aload_n (pc1 := 2459) dL_law_2458 rfl rfl ?_
    refine k_callVP dL_law_2459 rfl lk_RL_142 o_X6_thrown (w_thr hl hM2) (as := []) hM2.1 rfl rfl rfl rfl (by decide) (by decide) (k8 rfl) ?_
    refine k_iload (pc1 := 2464) dL_law_2462 rfl rfl ?_
    refine k_icmp_eq (a := 1) (b := 1) dL_law_2464 rfl (tgt := 2469) rfl (by omega) (by omega) (fun _ => ?_) (fun c => absurd rfl c)
    refine k_iload (pc1 := 2471) dL_law_2469 rfl rfl ?_
    refine k_if_ne (a := 1) dL_law_2471 rfl (tgt := 2507) rfl (by decide) (fun _ => ?_) (fun c => absurd c (by decide))
    refine k_goto dL_law_2507 (tgt := 2523) rfl ?_
    refine k_forget 6 (k_loc (L' := [some (.ref (kScB G)), some (.ref pl), some (.ref o), some (.ref ol), some (.ref od), some (.int (iI ((i : Nat) : Int))), none, some (.float 0), none]) rfl ?_)
    refine k_forget 7 (k_loc (L' := [some (.ref (kScB G)), some (.ref pl), some (.ref o), some (.ref ol), some (.ref od), some (.int (iI ((i : Nat) : Int))), none, none, none]) rfl ?_)
    exact k_widen (by omega) (by omega) (IH _ _ _ _ _ _ _ hst9 (show f 2 ≤ f 2 + 1 by omega))
  · skip
    refine k_aload_n (pc1 := 2445) dL_law_2444 rfl rfl ?_
    refine k_aload (pc1 := 2447) dL_law_2445 rfl rfl ?_
    refine k_callSX dL_law_2447 rfl rfl lk_RL_254 o_L_yesShare (as := [.ref pl, .ref od]) rfl rfl (w_L_yesShareF hl hC hq.2.2.2.2 hc9) (by decide) (by decide) (by omega) (by omega) (k8 rfl) (fun v h1 hv => ?_) (fun E h9 z => z.elim)
    obtain ⟨hv1, ⟨F1, hD1, hX1⟩, hfr1⟩ := hv
    subst hv1
    refine k_st (st' := [.int (iI 0)]) rfl ?_
    have hq1 := l9_od hq hD1 hfr1
    refine k_istore (pc1 := 2452) dL_law_2450 rfl (by decide) (k_loc (L' := [some (.ref (kScB G)), some (.ref pl), some (.ref o), some (.ref ol), some (.ref od), some (.int (iI ((i : Nat) : Int))), some (.int (iI 0)), none, none]) rfl ?_)
    refine k_aload_n (pc1 := 2453) dL_law_2452 rfl rfl ?_
    refine k_callV dL_law_2453 rfl lk_RL_256 o_X6_yesShare (as := []) rfl rfl hq1.2.1.1 rfl rfl (w_X6_yesShareF hl hq1.2.1 hC.2.2 hc9) (by decide) (by decide) (Nat.zero_le _) (Nat.zero_le _) (k8 rfl) (fun v h2 hv => ?_) (fun E h9 z => z.elim)
    obtain ⟨hv1, hM2, hF2⟩ := hv
    rw [hv1]
    refine k_st (st' := [.float (FP.fdiv (FP.i2f (iI (ysF f))) (FP.i2f (iI (alF f))))]) rfl ?_
    have hst9 := l9_ref hq1.1 hq1.2.1 hq1.2.2.1 hq1.2.2.2.1 hq1.2.2.2.2 hM2 hF2.w
    refine k_fstore (pc1 := 2458) dL_law_2456 rfl (by decide) (k_loc (L' := [some (.ref (kScB G)), some (.ref pl), some (.ref o), some (.ref ol), some (.ref od), some (.int (iI ((i : Nat) : Int))), some (.int (iI 0)), some (.float (FP.fdiv (FP.i2f (iI (ysF f))) (FP.i2f (iI (alF f))))), none]) rfl ?_)
    refine k_aload_n (pc1 := 2459) dL_law_2458 rfl rfl ?_
    refine k_callVP dL_law_2459 rfl lk_RL_142 o_X6_thrown (w_thr hl hM2) (as := []) hM2.1 rfl rfl rfl rfl (by decide) (by decide) (k8 rfl) ?_
    refine k_iload (pc1 := 2464) dL_law_2462 rfl rfl ?_
    refine k_icmp_eq (a := 0) (b := 0) dL_law_2464 rfl (tgt := 2469) rfl (by omega) (by omega) (fun _ => ?_) (fun c => absurd rfl c)
    refine k_iload (pc1 := 2471) dL_law_2469 rfl rfl ?_
    refine k_if_ne (a := 0) dL_law_2471 rfl (tgt := 2507) rfl (by decide) (fun c => absurd c (by decide)) (fun _ => ?_)
    refine k_aload (pc1 := 2476) dL_law_2474 rfl rfl ?_
    refine k_iconst (pc1 := 2477) dL_law_2476 rfl ?_
    refine k_dald (i := 0) (pc1 := 2478) dL_law_2477 rfl hst9.2.2.2.2 (by decide) (by decide) (by decide) (k_val (v' := .double (FP.f2d (FP.fdiv (FP.i2f (iI (ysF f))) (FP.i2f (iI (alF f)))))) (congrArg Value.double hX1) ?_)
    refine k_fload (pc1 := 2480) dL_law_2478 rfl rfl ?_
    refine k_f2d (pc1 := 2481) dL_law_2480 rfl (fp_f2 (s := ysF f) (n := alF f) (by omega) (by omega)).1 ?_
    refine k_dcmp (pc1 := 2482) dL_law_2481 rfl (k_val (v' := .int (iI 0)) (by rw [(fp_f2 (s := ysF f) (n := alF f) (by omega) (by omega)).2]; rfl) ?_)
    refine k_if_eq (a := 0) dL_law_2482 rfl (tgt := 2507) rfl (by decide) (fun _ => ?_) (fun c => absurd c (by decide))
    refine k_goto dL_law_2507 (tgt := 2523) rfl ?_
    refine k_forget 6 (k_loc (L' := [some (.ref (kScB G)), some (.ref pl), some (.ref o), some (.ref ol), some (.ref od), some (.int (iI ((i : Nat) : Int))), none, some (.float (FP.fdiv (FP.i2f (iI (ysF f))) (FP.i2f (iI (alF f))))), none]) rfl ?_)
    refine k_forget 7 (k_loc (L' := [some (.ref (kScB G)), some (.ref pl), some (.ref o), some (.ref ol), some (.ref od), some (.int (iI ((i : Nat) : Int))), none, none, none]) rfl ?_)
    exact k_widen (by omega) (by omega) (IH _ _ _ _ _ _ _ hst9 (show f 2 ≤ f 2 + 1 by omega))
theorem law_loop {l : Launch} {G : kG} (hl : l.stackTraces = false) {pl o g r ol od : Nat} (hsr : ∀ j : Nat, -2147483648 ≤ kScF G j ∧ kScF G j < 2147483648) (hN : kScL G ≤ 3072) : ∀ (zz j : Nat) (h : kAH) (γ : kGh) (A : kAb) (f : Nat → Int) (c9 : Int) (F9 : Nat → Int64) (D9 : Nat → UInt64), zz = 512 - j → j ≤ 512 → kLs9 G h pl o g r ol od γ A f c9 F9 D9 → f 2 ≤ (j : Int) → kW l G m_L_law 12 (fun v _ => v = some (.int (iI 1))) kNo (40 * (512 - j)) (4800 * (512 - j)) 28 [some (.ref (kScB G)), some (.ref pl), some (.ref o), some (.ref ol), some (.ref od), some (.int (iI (((6 * j : Nat) : Int)))), none, none, none] [] h := by
  intro zz
  induction zz using Nat.strongRecOn with
  | ind zz ih =>
    intro j h γ A f c9 F9 D9 hz hj hq hf2
    refine k_iload (pc1 := 30) dL_law_28 rfl rfl ?_
    refine k_aload_n (pc1 := 31) dL_law_30 rfl rfl ?_
    refine k_slen (pc1 := 32) dL_law_31 rfl rfl ?_
    refine k_bipush 6 (pc1 := 34) dL_law_32 rfl (by decide) ?_
    refine k_isub (a := ((kScL G : Nat) : Int)) (b := 6) (pc1 := 35) dL_law_34 rfl ?_
    refine k_icmp_gt (a := ((6 * j : Nat) : Int)) (b := (((kScL G : Nat) : Int) - 6)) dL_law_35 rfl (tgt := 2529) rfl (by omega) (by omega) (fun c35 : (((kScL G : Nat) : Int) - 6) < ((6 * j : Nat) : Int) => ?_) (fun c35 : ((6 * j : Nat) : Int) ≤ (((kScL G : Nat) : Int) - 6) => ?_)
    · skip
      refine k_iconst (pc1 := 2530) dL_law_2529 rfl ?_
      exact k_iret dL_law_2530 rfl rfl rfl
    · skip
      refine k_aload_n (pc1 := 39) dL_law_38 rfl rfl ?_
      refine k_iload (pc1 := 41) dL_law_39 rfl rfl ?_
      refine k_sld (i := ((6 * j : Nat) : Int)) (pc1 := 42) dL_law_41 rfl rfl (by omega) (by omega) (by omega) (k_val (v' := .int (iI (kScF G (6 * j)))) (by rw [show (((6 * j : Nat) : Int)).toNat = 6 * j by omega]) ?_)
      refine k_bipush 63 (pc1 := 44) dL_law_42 rfl (by decide) ?_
      obtain ⟨z, hz0, hz1, hz2⟩ := and63_ex (iI (kScF G (6 * j)))
      refine k_iand (pc1 := 45) dL_law_44 rfl (k_val (v' := .int (iI z)) (congrArg Value.int hz2) ?_)
      have hj5 : j < 512 := by omega
      have IH : ∀ (h' : kAH) (γ' : kGh) (A' : kAb) (f' : Nat → Int) (c' : Int) (F' : Nat → Int64) (D' : Nat → UInt64), kLs9 G h' pl o g r ol od γ' A' f' c' F' D' → f' 2 ≤ f 2 + 1 → kW l G m_L_law 12 (fun v _ => v = some (.int (iI 1))) kNo (40 * (512 - (j + 1))) (4800 * (512 - (j + 1))) 2523 [some (.ref (kScB G)), some (.ref pl), some (.ref o), some (.ref ol), some (.ref od), some (.int (iI (((6 * j : Nat) : Int)))), none, none, none] [] h' := fun h' γ' A' f' c' F' D' hq' hf' => by
        refine k_iinc (a := ((6 * j : Nat) : Int)) (pc1 := 2526) dL_law_2523 rfl rfl (by decide) (k_loc (L' := [some (.ref (kScB G)), some (.ref pl), some (.ref o), some (.ref ol), some (.ref od), some (.int (iI (((6 * (j + 1) : Nat) : Int)))), none, none, none]) (by rw [show ((6 * (j + 1) : Nat) : Int) = ((6 * j : Nat) : Int) + 6 by omega]; rfl) ?_)
        refine k_goto dL_law_2526 (tgt := 28) rfl ?_
        exact ih _ (by omega) (j + 1) h' γ' A' f' c' F' D' rfl (by omega) hq' (by omega)
      have hnx9 : f 2 < 1000000 := by omega
      have hi6 : 6 * j + 6 ≤ kScL G := by omega
      have hN9 : kScL G ≤ 1000000 := by omega
      by_cases h36 : 36 ≤ z
      · exact k_tableOut (x := z) dL_law_45 (by omega) (Or.inr (by omega)) (tgt := 2523) rfl (k_widen (by omega) (by omega) (IH _ _ _ _ _ _ _ hq (by omega)))
      have hzz : z = 0 ∨ z = 1 ∨ z = 2 ∨ z = 3 ∨ z = 4 ∨ z = 5 ∨ z = 6 ∨ z = 7 ∨ z = 8 ∨ z = 9 ∨ z = 10 ∨ z = 11 ∨ z = 12 ∨ z = 13 ∨ z = 14 ∨ z = 15 ∨ z = 16 ∨ z = 17 ∨ z = 18 ∨ z = 19 ∨ z = 20 ∨ z = 21 ∨ z = 22 ∨ z = 23 ∨ z = 24 ∨ z = 25 ∨ z = 26 ∨ z = 27 ∨ z = 28 ∨ z = 29 ∨ z = 30 ∨ z = 31 ∨ z = 32 ∨ z = 33 ∨ z = 34 ∨ z = 35 := by omega
      rcases hzz with rfl | rfl | rfl | rfl | rfl | rfl | rfl | rfl | rfl | rfl | rfl | rfl | rfl | rfl | rfl | rfl | rfl | rfl | rfl | rfl | rfl | rfl | rfl | rfl | rfl | rfl | rfl | rfl | rfl | rfl | rfl | rfl | rfl | rfl | rfl | rfl
      · exact k_tableIn (x := 0) (off := 159) dL_law_45 (by decide) (by decide) (by decide) rfl (tgt := 204) rfl (k_widen (by omega) (by omega) (lc_setRoom hl hq hnx9 hsr hi6 hN9 IH))
      · exact k_tableIn (x := 1) (off := 239) dL_law_45 (by decide) (by decide) (by decide) rfl (tgt := 284) rfl (k_widen (by omega) (by omega) (lc_setGap hl hq hnx9 hsr hi6 hN9 IH))
      · exact k_tableIn (x := 2) (off := 295) dL_law_45 (by decide) (by decide) (by decide) rfl (tgt := 340) rfl (k_widen (by omega) (by omega) (lc_seatsOf hl hq hnx9 hsr hi6 hN9 IH))
      · exact k_tableIn (x := 3) (off := 351) dL_law_45 (by decide) (by decide) (by decide) rfl (tgt := 396) rfl (k_widen (by omega) (by omega) (lc_houseOf hl hq hnx9 hsr hi6 hN9 IH))
      · exact k_tableIn (x := 4) (off := 407) dL_law_45 (by decide) (by decide) (by decide) rfl (tgt := 452) rfl (k_widen (by omega) (by omega) (lc_ask hl hq hnx9 hsr hi6 hN9 IH))
      · exact k_tableIn (x := 5) (off := 511) dL_law_45 (by decide) (by decide) (by decide) rfl (tgt := 556) rfl (k_widen (by omega) (by omega) (lc_extend hl hq hnx9 hsr hi6 hN9 IH))
      · exact k_tableIn (x := 6) (off := 591) dL_law_45 (by decide) (by decide) (by decide) rfl (tgt := 636) rfl (k_widen (by omega) (by omega) (lc_remove hl hq hnx9 hsr hi6 hN9 IH))
      · exact k_tableIn (x := 7) (off := 647) dL_law_45 (by decide) (by decide) (by decide) rfl (tgt := 692) rfl (k_widen (by omega) (by omega) (lc_answer hl hq hnx9 hsr hi6 hN9 IH))
      · exact k_tableIn (x := 8) (off := 729) dL_law_45 (by decide) (by decide) (by decide) rfl (tgt := 774) rfl (k_widen (by omega) (by omega) (lc_cancel hl hq hnx9 hsr hi6 hN9 IH))
      · exact k_tableIn (x := 9) (off := 797) dL_law_45 (by decide) (by decide) (by decide) rfl (tgt := 842) rfl (k_widen (by omega) (by omega) (lc_move hl hq hnx9 hsr hi6 hN9 IH))
      · exact k_tableIn (x := 10) (off := 889) dL_law_45 (by decide) (by decide) (by decide) rfl (tgt := 934) rfl (k_widen (by omega) (by omega) (lc_meetingCount hl hq hnx9 hsr hi6 hN9 IH))
      · exact k_tableIn (x := 11) (off := 902) dL_law_45 (by decide) (by decide) (by decide) rfl (tgt := 947) rfl (k_widen (by omega) (by omega) (lc_meetingAt hl hq hnx9 hsr hi6 hN9 IH))
      · exact k_tableIn (x := 12) (off := 958) dL_law_45 (by decide) (by decide) (by decide) rfl (tgt := 1003) rfl (k_widen (by omega) (by omega) (lc_hostOf hl hq hnx9 hsr hi6 hN9 IH))
      · exact k_tableIn (x := 13) (off := 1014) dL_law_45 (by decide) (by decide) (by decide) rfl (tgt := 1059) rfl (k_widen (by omega) (by omega) (lc_answerOf hl hq hnx9 hsr hi6 hN9 IH))
      · exact k_tableIn (x := 14) (off := 1082) dL_law_45 (by decide) (by decide) (by decide) rfl (tgt := 1127) rfl (k_widen (by omega) (by omega) (lc_expected hl hq hnx9 hsr hi6 hN9 IH))
      · exact k_tableIn (x := 15) (off := 1138) dL_law_45 (by decide) (by decide) (by decide) rfl (tgt := 1183) rfl (k_widen (by omega) (by omega) (lc_dateCount hl hq hnx9 hsr hi6 hN9 IH))
      · exact k_tableIn (x := 16) (off := 1194) dL_law_45 (by decide) (by decide) (by decide) rfl (tgt := 1239) rfl (k_widen (by omega) (by omega) (lc_dayOf hl hq hnx9 hsr hi6 hN9 IH))
      · exact k_tableIn (x := 17) (off := 1262) dL_law_45 (by decide) (by decide) (by decide) rfl (tgt := 1307) rfl (k_widen (by omega) (by omega) (lc_timeOf hl hq hnx9 hsr hi6 hN9 IH))
      · exact k_tableIn (x := 18) (off := 1330) dL_law_45 (by decide) (by decide) (by decide) rfl (tgt := 1375) rfl (k_widen (by omega) (by omega) (lc_isCancelled hl hq hnx9 hsr hi6 hN9 IH))
      · exact k_tableIn (x := 19) (off := 1405) dL_law_45 (by decide) (by decide) (by decide) rfl (tgt := 1450) rfl (k_widen (by omega) (by omega) (lc_roomOf hl hq hnx9 hsr hi6 hN9 IH))
      · exact k_tableIn (x := 20) (off := 1473) dL_law_45 (by decide) (by decide) (by decide) rfl (tgt := 1518) rfl (k_widen (by omega) (by omega) (lc_refusalReason hl hq hnx9 hsr hi6 hN9 IH))
      · exact k_tableIn (x := 21) (off := 1517) dL_law_45 (by decide) (by decide) (by decide) rfl (tgt := 1562) rfl (k_widen (by omega) (by omega) (lc_refusalDetail hl hq hnx9 hsr hi6 hN9 IH))
      · exact k_tableIn (x := 22) (off := 1561) dL_law_45 (by decide) (by decide) (by decide) rfl (tgt := 1606) rfl (k_widen (by omega) (by omega) (lc_isFree hl hq hnx9 hsr hi6 hN9 IH))
      · exact k_tableIn (x := 23) (off := 1648) dL_law_45 (by decide) (by decide) (by decide) rfl (tgt := 1693) rfl (k_widen (by omega) (by omega) (lc_meetingOf hl hq hnx9 hsr hi6 hN9 IH))
      · exact k_tableIn (x := 24) (off := 1728) dL_law_45 (by decide) (by decide) (by decide) rfl (tgt := 1773) rfl (k_widen (by omega) (by omega) (lc_freeTimes hl hq hnx9 hsr hi6 hN9 IH))
      · exact k_tableIn (x := 25) (off := 1796) dL_law_45 (by decide) (by decide) (by decide) rfl (tgt := 1841) rfl (k_widen (by omega) (by omega) (lc_freeByTrying hl hq hnx9 hsr hi6 hN9 IH))
      · exact k_tableIn (x := 26) (off := 1864) dL_law_45 (by decide) (by decide) (by decide) rfl (tgt := 1909) rfl (k_widen (by omega) (by omega) (lc_longestFree hl hq hnx9 hsr hi6 hN9 IH))
      · exact k_tableIn (x := 27) (off := 1932) dL_law_45 (by decide) (by decide) (by decide) rfl (tgt := 1977) rfl (k_widen (by omega) (by omega) (lc_firstCommon hl hq hnx9 hsr hi6 hN9 IH))
      · exact k_tableIn (x := 28) (off := 2012) dL_law_45 (by decide) (by decide) (by decide) rfl (tgt := 2057) rfl (k_widen (by omega) (by omega) (lc_commonCount hl hq hnx9 hsr hi6 hN9 IH))
      · exact k_tableIn (x := 29) (off := 2092) dL_law_45 (by decide) (by decide) (by decide) rfl (tgt := 2137) rfl (k_widen (by omega) (by omega) (lc_roomFor hl hq hnx9 hsr hi6 hN9 IH))
      · exact k_tableIn (x := 30) (off := 2184) dL_law_45 (by decide) (by decide) (by decide) rfl (tgt := 2229) rfl (k_widen (by omega) (by omega) (lc_usedTimes hl hq hnx9 hsr hi6 hN9 IH))
      · exact k_tableIn (x := 31) (off := 2252) dL_law_45 (by decide) (by decide) (by decide) rfl (tgt := 2297) rfl (k_widen (by omega) (by omega) (lc_walks hl hq hnx9 hsr hi6 hN9 IH))
      · exact k_tableIn (x := 32) (off := 2320) dL_law_45 (by decide) (by decide) (by decide) rfl (tgt := 2365) rfl (k_widen (by omega) (by omega) (lc_sittings hl hq hnx9 hsr hi6 hN9 IH))
      · exact k_tableIn (x := 33) (off := 2334) dL_law_45 (by decide) (by decide) (by decide) rfl (tgt := 2379) rfl (k_widen (by omega) (by omega) (lc_meanExpected hl hq hnx9 hsr hi6 hN9 IH))
      · exact k_tableIn (x := 34) (off := 2399) dL_law_45 (by decide) (by decide) (by decide) rfl (tgt := 2444) rfl (k_widen (by omega) (by omega) (lc_yesShare hl hq hnx9 hsr hi6 hN9 IH))
      · exact k_tableIn (x := 35) (off := 2465) dL_law_45 (by decide) (by decide) (by decide) rfl (tgt := 2510) rfl (k_widen (by omega) (by omega) (lc_isConsistent hl hq hnx9 hsr hi6 hN9 IH))
theorem w_law {l : Launch} {G : kG} (hl : l.stackTraces = false) (hsr : ∀ j : Nat, -2147483648 ≤ kScF G j ∧ kScF G j < 2147483648) (hN : kScL G ≤ 3072) : kW l G m_L_law 12 (fun v _ => v = some (.int (iI 1))) kNo 20600 2460000 0 [some (.ref (kScB G)), none, none, none, none, none, none, none, none] [] (fun _ => none) := by
  refine k_new (pc1 := 3) dL_law_0 rfl nw_RL_8 (by omega) (by omega) (fun pl hq_pl => ?_)
  refine k_dup (pc1 := 4) dL_law_3 rfl rfl ?_
  refine k_callI dL_law_4 rfl lk_RL_132 o_X5_init (as := []) rfl rfl (w_planI hl (kup_same _ _ _)) (fun E h9 z => z.elim) (by decide) (by decide) (by omega) (by omega) (k8 rfl) (fun v h1 hv => ?_)
  obtain ⟨hv1, γ, A, hC1, hfr1⟩ := hv
  subst hv1
  refine k_st (st' := [.ref pl]) rfl ?_
  have tg : ∀ b : Nat, h1 b = none → gOw γ b = (0, 0) := hC1.1.2.2.2.2.2.2.2.2
  refine k_astore_n (pc1 := 8) dL_law_7 rfl (by decide) (k_loc (L' := [some (.ref (kScB G)), some (.ref pl), none, none, none, none, none, none, none]) rfl ?_)
  refine k_new (pc1 := 11) dL_law_8 rfl nw_RL_133 (by omega) (by omega) (fun o hq_o => ?_)
  refine k_dup (pc1 := 12) dL_law_11 rfl rfl ?_
  refine k_callI dL_law_12 rfl lk_RL_135 o_X6_init (as := []) rfl rfl (w_modI hl (kup_same _ _ _)) (fun E h9 z => z.elim) (by decide) (by decide) (by omega) (by omega) (k8 rfl) (fun v h2 hv => ?_)
  obtain ⟨hv1, g, r, hM2, hg0, hr0, hfr2⟩ := hv
  subst hv1
  refine k_st (st' := [.ref o]) rfl ?_
  have hgo : g ≠ o := fun y => by rw [y, kup_same] at hg0; cases hg0
  have hro : r ≠ o := fun y => by rw [y, kup_same] at hr0; cases hr0
  rw [kup_ne hgo] at hg0
  rw [kup_ne hro] at hr0
  have hX2 : kXt h1 h2 := fun b e z => (hfr2 b (kne_new z hq_o) (kne_new z hg0) (kne_new z hr0)).trans ((kup_ne (kne_new z hq_o)).trans z)
  have hC2 := kRp_xt hX2 hC1
  refine k_astore_n (pc1 := 16) dL_law_15 rfl (by decide) (k_loc (L' := [some (.ref (kScB G)), some (.ref pl), some (.ref o), none, none, none, none, none, none]) rfl ?_)
  refine k_iconst (pc1 := 17) dL_law_16 rfl ?_
  refine k_newL (pc1 := 19) (z := 1) (N := 1) dL_law_17 rfl aw_long rfl (by decide) (by omega) (by omega) (fun ol hq_l => ?_)
  obtain ⟨h3, eh3⟩ : ∃ z, z = kup h2 ol (klo1 G 1 (fun _ => 0)) := ⟨_, rfl⟩
  refine k_hp (h' := h3) eh3.symm ?_
  have hO3 : h3 ol = some (klo1 G 1 (fun _ => 0)) := by rw [eh3]; exact kup_same _ _ _
  have hX3 : kXt h2 h3 := by rw [eh3]; exact kXt_new hq_l
  clear eh3
  refine k_astore_n (pc1 := 20) dL_law_19 rfl (by decide) (k_loc (L' := [some (.ref (kScB G)), some (.ref pl), some (.ref o), some (.ref ol), none, none, none, none, none]) rfl ?_)
  refine k_iconst (pc1 := 21) dL_law_20 rfl ?_
  refine k_newD (pc1 := 23) (z := 1) (N := 1) dL_law_21 rfl aw_double rfl (by decide) (by omega) (by omega) (fun od hq_d => ?_)
  obtain ⟨h4, eh4⟩ : ∃ z, z = kup h3 od (kdo G 1 (fun _ => 0)) := ⟨_, rfl⟩
  refine k_hp (h' := h4) eh4.symm ?_
  have hD4 : h4 od = some (kdo G 1 (fun _ => 0)) := by rw [eh4]; exact kup_same _ _ _
  have hX4 : kXt h3 h4 := by rw [eh4]; exact kXt_new hq_d
  clear eh4
  refine k_astore (pc1 := 25) dL_law_23 rfl (by decide) (k_loc (L' := [some (.ref (kScB G)), some (.ref pl), some (.ref o), some (.ref ol), some (.ref od), none, none, none, none]) rfl ?_)
  refine k_iconst (pc1 := 26) dL_law_25 rfl ?_
  refine k_istore (pc1 := 28) dL_law_26 rfl (by decide) (k_loc (L' := [some (.ref (kScB G)), some (.ref pl), some (.ref o), some (.ref ol), some (.ref od), some (.int (iI 0)), none, none, none]) rfl ?_)
  have hX24 := kXt_tr hX3 hX4
  have hC4 := kRp_xt hX24 hC2
  obtain ⟨m1, m2, rr, m3⟩ := hM2
  have nn : ∀ b : Nat, h2 b = none → h1 b = none := fun b hb => kXt_no hX2 hb
  have q9 : kLs9 G h4 pl o g r ol od γ A f00 0 (fun _ => 0) (fun _ => 0) := ⟨hC4, ⟨hX24 _ _ m1, hX24 _ _ m2, rr, hX24 _ _ m3⟩, ⟨tg o hq_o, tg g hg0, tg r hr0, tg ol (nn ol hq_l), tg od (nn od (kXt_no hX3 hq_d))⟩, hX4 _ _ hO3, hD4⟩
  exact k_widen (by omega) (by omega) (law_loop hl hsr hN _ 0 h4 γ A f00 0 _ _ rfl (by omega) q9 (by rw [f00_0.2.2.1]; decide))
