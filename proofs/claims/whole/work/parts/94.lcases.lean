/-! ===== the law: means and shares; its cases, walked ===== -/
theorem w_L_meanExpectedF {l : Launch} {G : kG} {h : kAH} (hl : l.stackTraces = false) {pl : Nat} {γ : kGh} {A : kAb} {f : Nat → Int} (hC : kRp G h pl γ A f) {od : Nat} {D9 : Nat → UInt64} (hD : h od = some (kdo G 1 D9)) (hc : ¬ f 1 = 0) : kC l G m_L_meanExpected 5 0 0 [.ref pl, .ref od] h (fun v h' => v = some (.int (iI 0)) ∧ (∃ F : Nat → UInt64, h' od = some (kdo G 1 F) ∧ F 0 = (FP.ddiv (FP.i2d (iI (mxF f))) (FP.i2d (iI (f 1))))) ∧ ∀ b, b ≠ od → h' b = h b) kNo := by
  refine kC_ofH hl rfl rfl (Nat.le_of_ble_eq_true rfl) (L := [some (.ref pl), some (.ref od), none]) rfl ?_
  refine k_aload_n (pc1 := 1) dL_meanExpected_0 rfl rfl ?_
  refine k_iconst (pc1 := 2) dL_meanExpected_1 rfl ?_
  refine k_aload_n (pc1 := 3) dL_meanExpected_2 rfl rfl ?_
  refine k_callVP dL_meanExpected_3 rfl lk_RL_122 o_X5_meanExpected (w_meanF hl hC hc) (as := []) (rp_P hC) rfl rfl rfl rfl (by decide) (by decide) (k8 rfl) ?_
  refine k_dast (i := 0) (pc1 := 7) dL_meanExpected_6 rfl hD (by decide) (by decide) (by decide) (fun F hF => ?_)
  refine k_goto dL_meanExpected_7 (tgt := 13) rfl ?_
  refine k_iconst (pc1 := 14) dL_meanExpected_13 rfl ?_
  exact k_iret dL_meanExpected_14 rfl rfl ⟨rfl, ⟨F, kup_same _ _ _, hF⟩, fun b hb => kup_ne hb⟩
theorem w_L_meanExpectedT {l : Launch} {G : kG} {h : kAH} (hl : l.stackTraces = false) {pl : Nat} {γ : kGh} {A : kAb} {f : Nat → Int} (hC : kRp G h pl γ A f) {od : Nat} {D9 : Nat → UInt64} (hD : h od = some (kdo G 1 D9)) (hc : f 1 = 0) : kC l G m_L_meanExpected 5 1 6 [.ref pl, .ref od] h (fun v h' => v = some (.int (iI 1)) ∧ h' = h) kNo := by
  refine kC_ofH hl rfl rfl (Nat.le_of_ble_eq_true rfl) (L := [some (.ref pl), some (.ref od), none]) rfl ?_
  refine k_aload_n (pc1 := 1) dL_meanExpected_0 rfl rfl ?_
  refine k_iconst (pc1 := 2) dL_meanExpected_1 rfl ?_
  refine k_aload_n (pc1 := 3) dL_meanExpected_2 rfl rfl ?_
  refine k_callV dL_meanExpected_3 rfl lk_RL_122 o_X5_meanExpected (as := []) rfl rfl (rp_P hC) rfl rfl (w_meanT hl hC hc) (by decide) (by decide) (by decide) (by decide) (k8 rfl) (fun v h9 z => z.elim) (fun E h9 hv => ?_)
  obtain ⟨hv1, hv2⟩ := hv
  subst hv1
  rw [hv2]
  refine kx_catch (name := "java/lang/ArithmeticException") [] (0, 7, 10, 126) [] rfl (fun z9 hz9 => nomatch hz9) (by decide) (by decide) (by decide) cl_RL_126 (by decide) (fun qx => ?_)
  refine k_astore_n (pc1 := 11) dL_meanExpected_10 rfl (by decide) (k_loc (L' := [some (.ref pl), some (.ref od), some (.ref qx)]) rfl ?_)
  refine k_iconst (pc1 := 12) dL_meanExpected_11 rfl ?_
  exact k_iret dL_meanExpected_12 rfl rfl ⟨rfl, rfl⟩
theorem w_L_yesShareF {l : Launch} {G : kG} {h : kAH} (hl : l.stackTraces = false) {pl : Nat} {γ : kGh} {A : kAb} {f : Nat → Int} (hC : kRp G h pl γ A f) {od : Nat} {D9 : Nat → UInt64} (hD : h od = some (kdo G 1 D9)) (hc : ¬ alF f = 0) : kC l G m_L_yesShare 5 0 0 [.ref pl, .ref od] h (fun v h' => v = some (.int (iI 0)) ∧ (∃ F : Nat → UInt64, h' od = some (kdo G 1 F) ∧ F 0 = (FP.f2d (FP.fdiv (FP.i2f (iI (ysF f))) (FP.i2f (iI (alF f)))))) ∧ ∀ b, b ≠ od → h' b = h b) kNo := by
  refine kC_ofH hl rfl rfl (Nat.le_of_ble_eq_true rfl) (L := [some (.ref pl), some (.ref od), none]) rfl ?_
  refine k_aload_n (pc1 := 1) dL_yesShare_0 rfl rfl ?_
  refine k_iconst (pc1 := 2) dL_yesShare_1 rfl ?_
  refine k_aload_n (pc1 := 3) dL_yesShare_2 rfl rfl ?_
  refine k_callVP dL_yesShare_3 rfl lk_RL_128 o_X5_yesShare (w_yesF hl hC hc) (as := []) (rp_P hC) rfl rfl rfl rfl (by decide) (by decide) (k8 rfl) ?_
  have hyr := ysF_r (f := f) (kWf_cnt hC.2.2)
  refine k_f2d (pc1 := 7) dL_yesShare_6 rfl (fp_f2 (by omega) (by omega)).1 ?_
  refine k_dast (i := 0) (pc1 := 8) dL_yesShare_7 rfl hD (by decide) (by decide) (by decide) (fun F hF => ?_)
  refine k_goto dL_yesShare_8 (tgt := 14) rfl ?_
  refine k_iconst (pc1 := 15) dL_yesShare_14 rfl ?_
  exact k_iret dL_yesShare_15 rfl rfl ⟨rfl, ⟨F, kup_same _ _ _, hF⟩, fun b hb => kup_ne hb⟩
theorem w_L_yesShareT {l : Launch} {G : kG} {h : kAH} (hl : l.stackTraces = false) {pl : Nat} {γ : kGh} {A : kAb} {f : Nat → Int} (hC : kRp G h pl γ A f) {od : Nat} {D9 : Nat → UInt64} (hD : h od = some (kdo G 1 D9)) (hc : alF f = 0) : kC l G m_L_yesShare 5 1 6 [.ref pl, .ref od] h (fun v h' => v = some (.int (iI 1)) ∧ h' = h) kNo := by
  refine kC_ofH hl rfl rfl (Nat.le_of_ble_eq_true rfl) (L := [some (.ref pl), some (.ref od), none]) rfl ?_
  refine k_aload_n (pc1 := 1) dL_yesShare_0 rfl rfl ?_
  refine k_iconst (pc1 := 2) dL_yesShare_1 rfl ?_
  refine k_aload_n (pc1 := 3) dL_yesShare_2 rfl rfl ?_
  refine k_callV dL_yesShare_3 rfl lk_RL_128 o_X5_yesShare (as := []) rfl rfl (rp_P hC) rfl rfl (w_yesT hl hC hc) (by decide) (by decide) (by decide) (by decide) (k8 rfl) (fun v h9 z => z.elim) (fun E h9 hv => ?_)
  obtain ⟨hv1, hv2⟩ := hv
  subst hv1
  rw [hv2]
  refine kx_catch (name := "java/lang/ArithmeticException") [] (0, 8, 11, 126) [] rfl (fun z9 hz9 => nomatch hz9) (by decide) (by decide) (by decide) cl_RL_126 (by decide) (fun qx => ?_)
  refine k_astore_n (pc1 := 12) dL_yesShare_11 rfl (by decide) (k_loc (L' := [some (.ref pl), some (.ref od), some (.ref qx)]) rfl ?_)
  refine k_iconst (pc1 := 13) dL_yesShare_12 rfl ?_
  exact k_iret dL_yesShare_13 rfl rfl ⟨rfl, rfl⟩
abbrev m_L_law : kMR := (yL_law, cL_law, 9, some .boolean, [])
-- what the law holds between two calls
def kLs9 (G : kG) (h : kAH) (pl o g r ol od : Nat) (γ : kGh) (A : kAb) (f : Nat → Int) (c : Int) (F : Nat → Int64) (D : Nat → UInt64) : Prop :=
  kRp G h pl γ A f ∧ kMd G h o g r c (-1) (-1) f ∧ (gOw γ o = (0, 0) ∧ gOw γ g = (0, 0) ∧ gOw γ r = (0, 0) ∧ gOw γ ol = (0, 0) ∧ gOw γ od = (0, 0)) ∧ h ol = some (klo1 G 1 F) ∧ h od = some (kdo G 1 D)
section KL9
variable {G : kG} {h h1 h2 : kAH} {pl o g r ol od : Nat} {γ γ1 : kGh} {A A1 : kAb} {f f1 : Nat → Int} {c c1 : Int} {F F1 : Nat → Int64} {D D1 : Nat → UInt64}
theorem kne_lg {a b : Nat} {N M : Nat} {F : Nat → Int64} {x : Nat → Int} (ha : h a = some (klo1 G N F)) (hb : h b = some (kio G M x)) : a ≠ b := fun e => by
  rw [e, hb] at ha
  have h4 := (Prod.mk.inj (Prod.mk.inj (Sum.inl.inj (Option.some.inj ha))).2).2
  cases h4
theorem kne_ld {a b : Nat} {N M : Nat} {F : Nat → Int64} {D : Nat → UInt64} (ha : h a = some (klo1 G N F)) (hb : h b = some (kdo G M D)) : a ≠ b := fun e => by
  rw [e, hb] at ha
  have h4 := (Prod.mk.inj (Prod.mk.inj (Sum.inl.inj (Option.some.inj ha))).2).2
  cases h4
theorem kne_dg {a b : Nat} {N M : Nat} {D : Nat → UInt64} {x : Nat → Int} (ha : h a = some (kdo G N D)) (hb : h b = some (kio G M x)) : a ≠ b := fun e => by
  rw [e, hb] at ha
  have h4 := (Prod.mk.inj (Prod.mk.inj (Sum.inl.inj (Option.some.inj ha))).2).2
  cases h4
-- behind a call of the class: all but the class's and the row of longs is as it was
theorem l9_call (q : kLs9 G h pl o g r ol od γ A f c F D) (hC1 : kRp G h1 pl γ1 A1 f1) (hO1 : h1 ol = some (klo1 G 1 F1)) (hO2 : gOw γ1 ol = (0, 0)) (hfr : ∀ (b : Nat) (e : va_E), h b = some e → gOw γ b = (0, 0) → b ≠ ol → h1 b = some e ∧ gOw γ1 b = (0, 0)) :
    kMd G h1 o g r c (-1) (-1) f ∧ (gOw γ1 o = (0, 0) ∧ gOw γ1 g = (0, 0) ∧ gOw γ1 r = (0, 0) ∧ gOw γ1 ol = (0, 0) ∧ gOw γ1 od = (0, 0)) ∧ h1 od = some (kdo G 1 D) := by
  obtain ⟨-, ⟨m1, m2, rr, m3⟩, ⟨t1, t2, t3, t4, t5⟩, q1, q2⟩ := q
  have a1 := hfr o _ m1 t1 (kne_or m1 q1)
  have a2 := hfr g _ m2 t2 (Ne.symm (kne_lg q1 m2))
  have a3 := hfr r _ m3 t3 (Ne.symm (kne_lg q1 m3))
  have a4 := hfr od _ q2 t5 (Ne.symm (kne_ld q1 q2))
  exact ⟨⟨a1.1, a2.1, rr, a3.1⟩, ⟨a1.2, a2.2, a3.2, hO2, a4.2⟩, a4.1⟩
-- behind a call of the reference
theorem l9_ref (hC1 : kRp G h1 pl γ1 A1 f1) (hM1 : kMd G h1 o g r c (-1) (-1) f) (t : gOw γ1 o = (0, 0) ∧ gOw γ1 g = (0, 0) ∧ gOw γ1 r = (0, 0) ∧ gOw γ1 ol = (0, 0) ∧ gOw γ1 od = (0, 0)) (hO1 : h1 ol = some (klo1 G 1 F1)) (hD1 : h1 od = some (kdo G 1 D)) (hM2 : kMd G h2 o g r c1 (-1) (-1) f1) (hf : kFw o g r h1 h2) : kLs9 G h2 pl o g r ol od γ1 A1 f1 c1 F1 D := by
  obtain ⟨t1, t2, t3, t4, t5⟩ := t
  obtain ⟨m1, m2, rr, m3⟩ := hM1
  refine ⟨rp_fw hC1 t1 t2 t3 hf hM2, hM2, ⟨t1, t2, t3, t4, t5⟩, ?_, ?_⟩
  · exact (hf ol (Ne.symm (kne_or m1 hO1)) (kne_lg hO1 m2) (kne_lg hO1 m3)).trans hO1
  · exact (hf od (Ne.symm (kne_or m1 hD1)) (kne_dg hD1 m2) (kne_dg hD1 m3)).trans hD1
end KL9
theorem lc_setRoom {l : Launch} {G : kG} {h : kAH} (hl : l.stackTraces = false) {pl o g r ol od : Nat} {γ : kGh} {A : kAb} {f : Nat → Int} {c9 : Int} {F9 : Nat → Int64} {D9 : Nat → UInt64} (hq : kLs9 G h pl o g r ol od γ A f c9 F9 D9) (hnx9 : f 2 < 1000000) (hsr : ∀ j : Nat, -2147483648 ≤ kScF G j ∧ kScF G j < 2147483648) {i : Nat} (hi6 : i + 6 ≤ kScL G) (hN9 : kScL G ≤ 1000000) {Φ : Option Value → kAH → Prop} {k n : Nat} (IH : ∀ (h' : kAH) (γ' : kGh) (A' : kAb) (f' : Nat → Int) (c' : Int) (F' : Nat → Int64) (D' : Nat → UInt64), kLs9 G h' pl o g r ol od γ' A' f' c' F' D' → f' 2 ≤ f 2 + 1 → kW l G m_L_law 12 Φ kNo k n 2523 [some (.ref (kScB G)), some (.ref pl), some (.ref o), some (.ref ol), some (.ref od), some (.int (iI ((i : Nat) : Int))), none, none, none] [] h') : kW l G m_L_law 12 Φ kNo (k + 40) (n + 4800) 204 [some (.ref (kScB G)), some (.ref pl), some (.ref o), some (.ref ol), some (.ref od), some (.int (iI ((i : Nat) : Int))), none, none, none] [] h := by
  have hC := hq.1
  obtain ⟨hco0, hco1, hco2⟩ : kCo f (TsetRoom f (kScF G (i + 1)) (kScF G (i + 2)) (kScF G (i + 3))) := co_setRoom (kScF G (i + 1)) (kScF G (i + 2)) (kScF G (i + 3))
  refine k_aload_n (pc1 := 205) dL_law_204 rfl rfl ?_
  refine k_aload_n (pc1 := 206) dL_law_205 rfl rfl ?_
  refine k_iload (pc1 := 208) dL_law_206 rfl rfl ?_
  refine k_iconst (pc1 := 209) dL_law_208 rfl ?_
  refine k_iadd (a := ((i : Nat) : Int)) (b := 1) (pc1 := 210) dL_law_209 rfl ?_
  refine k_sld (i := (((i : Nat) : Int) + 1)) (pc1 := 211) dL_law_210 rfl rfl (by omega) (by omega) hN9 (k_val (v' := .int (iI (kScF G (i + 1)))) (by rw [show ((((i : Nat) : Int) + 1)).toNat = i + 1 by omega]) ?_)
  refine k_aload_n (pc1 := 212) dL_law_211 rfl rfl ?_
  refine k_iload (pc1 := 214) dL_law_212 rfl rfl ?_
  refine k_iconst (pc1 := 215) dL_law_214 rfl ?_
  refine k_iadd (a := ((i : Nat) : Int)) (b := 2) (pc1 := 216) dL_law_215 rfl ?_
  refine k_sld (i := (((i : Nat) : Int) + 2)) (pc1 := 217) dL_law_216 rfl rfl (by omega) (by omega) hN9 (k_val (v' := .int (iI (kScF G (i + 2)))) (by rw [show ((((i : Nat) : Int) + 2)).toNat = i + 2 by omega]) ?_)
  refine k_aload_n (pc1 := 218) dL_law_217 rfl rfl ?_
  refine k_iload (pc1 := 220) dL_law_218 rfl rfl ?_
  refine k_iconst (pc1 := 221) dL_law_220 rfl ?_
  refine k_iadd (a := ((i : Nat) : Int)) (b := 3) (pc1 := 222) dL_law_221 rfl ?_
  refine k_sld (i := (((i : Nat) : Int) + 3)) (pc1 := 223) dL_law_222 rfl rfl (by omega) (by omega) hN9 (k_val (v' := .int (iI (kScF G (i + 3)))) (by rw [show ((((i : Nat) : Int) + 3)).toNat = i + 3 by omega]) ?_)
  refine k_aload_n (pc1 := 224) dL_law_223 rfl rfl ?_
  refine k_callSX dL_law_224 rfl rfl lk_RL_136 o_L_setRoom (as := [.ref pl, .int (iI (kScF G (i + 1))), .int (iI (kScF G (i + 2))), .int (iI (kScF G (i + 3))), .ref ol]) rfl rfl (w_L_setRoom hl hC (hsr _) (hsr _) (hsr _) hq.2.2.2.1 hq.2.2.1.2.2.2.1) (by decide) (by decide) (by omega) (by omega) (k8 rfl) (fun v h1 hv => ?_) (fun E h9 z => z.elim)
  obtain ⟨hv1, ⟨F1, hO1, hX1⟩, γ1, A1, hC1, hO2, hfr1⟩ := hv
  subst hv1
  refine k_st (st' := [.int (iI ((TsetRoom f (kScF G (i + 1)) (kScF G (i + 2)) (kScF G (i + 3))).1))]) rfl ?_
  obtain ⟨hM1, ht1, hD1⟩ := l9_call hq hC1 hO1 hO2 hfr1
  refine k_istore (pc1 := 229) dL_law_227 rfl (by decide) (k_loc (L' := [some (.ref (kScB G)), some (.ref pl), some (.ref o), some (.ref ol), some (.ref od), some (.int (iI ((i : Nat) : Int))), some (.int (iI ((TsetRoom f (kScF G (i + 1)) (kScF G (i + 2)) (kScF G (i + 3))).1))), none, none]) rfl ?_)
  refine k_aload_n (pc1 := 230) dL_law_229 rfl rfl ?_
  refine k_aload_n (pc1 := 231) dL_law_230 rfl rfl ?_
  refine k_iload (pc1 := 233) dL_law_231 rfl rfl ?_
  refine k_iconst (pc1 := 234) dL_law_233 rfl ?_
  refine k_iadd (a := ((i : Nat) : Int)) (b := 1) (pc1 := 235) dL_law_234 rfl ?_
  refine k_sld (i := (((i : Nat) : Int) + 1)) (pc1 := 236) dL_law_235 rfl rfl (by omega) (by omega) hN9 (k_val (v' := .int (iI (kScF G (i + 1)))) (by rw [show ((((i : Nat) : Int) + 1)).toNat = i + 1 by omega]) ?_)
  refine k_aload_n (pc1 := 237) dL_law_236 rfl rfl ?_
  refine k_iload (pc1 := 239) dL_law_237 rfl rfl ?_
  refine k_iconst (pc1 := 240) dL_law_239 rfl ?_
  refine k_iadd (a := ((i : Nat) : Int)) (b := 2) (pc1 := 241) dL_law_240 rfl ?_
  refine k_sld (i := (((i : Nat) : Int) + 2)) (pc1 := 242) dL_law_241 rfl rfl (by omega) (by omega) hN9 (k_val (v' := .int (iI (kScF G (i + 2)))) (by rw [show ((((i : Nat) : Int) + 2)).toNat = i + 2 by omega]) ?_)
  refine k_aload_n (pc1 := 243) dL_law_242 rfl rfl ?_
  refine k_iload (pc1 := 245) dL_law_243 rfl rfl ?_
  refine k_iconst (pc1 := 246) dL_law_245 rfl ?_
  refine k_iadd (a := ((i : Nat) : Int)) (b := 3) (pc1 := 247) dL_law_246 rfl ?_
  refine k_sld (i := (((i : Nat) : Int) + 3)) (pc1 := 248) dL_law_247 rfl rfl (by omega) (by omega) hN9 (k_val (v' := .int (iI (kScF G (i + 3)))) (by rw [show ((((i : Nat) : Int) + 3)).toNat = i + 3 by omega]) ?_)
  refine k_callV dL_law_248 rfl lk_RL_141 o_X6_setRoom (as := [.int (iI (kScF G (i + 1))), .int (iI (kScF G (i + 2))), .int (iI (kScF G (i + 3)))]) rfl rfl hM1.1 rfl rfl (w_X6_setRoom hl hM1 hC.2.2 (kScF G (i + 1)) (kScF G (i + 2)) (kScF G (i + 3)) (hsr _) (hsr _) (hsr _)) (by decide) (by decide) (Nat.zero_le _) (Nat.zero_le _) (k8 rfl) (fun v h2 hv => ?_) (fun E h9 z => z.elim)
  obtain ⟨hv1, hM2, hF2⟩ := hv
  rw [hv1]
  refine k_st (st' := [.int (iI ((TsetRoom f (kScF G (i + 1)) (kScF G (i + 2)) (kScF G (i + 3))).2.1))]) rfl ?_
  have hst9 := l9_ref hC1 hM1 ht1 hO1 hD1 hM2 hF2.w
  refine k_istore (pc1 := 253) dL_law_251 rfl (by decide) (k_loc (L' := [some (.ref (kScB G)), some (.ref pl), some (.ref o), some (.ref ol), some (.ref od), some (.int (iI ((i : Nat) : Int))), some (.int (iI ((TsetRoom f (kScF G (i + 1)) (kScF G (i + 2)) (kScF G (i + 3))).1))), some (.int (iI ((TsetRoom f (kScF G (i + 1)) (kScF G (i + 2)) (kScF G (i + 3))).2.1))), none]) rfl ?_)
  refine k_aload_n (pc1 := 254) dL_law_253 rfl rfl ?_
  refine k_callVP dL_law_254 rfl lk_RL_142 o_X6_thrown (w_thr hl hM2) (as := []) hM2.1 rfl rfl rfl rfl (by decide) (by decide) (k8 rfl) ?_
  refine k_iload (pc1 := 259) dL_law_257 rfl rfl ?_
  refine k_icmp_eq (a := (TsetRoom f (kScF G (i + 1)) (kScF G (i + 2)) (kScF G (i + 3))).1) (b := (TsetRoom f (kScF G (i + 1)) (kScF G (i + 2)) (kScF G (i + 3))).1) dL_law_259 rfl (tgt := 264) rfl (by omega) (by omega) (fun _ => ?_) (fun c => absurd rfl c)
  refine k_iload (pc1 := 266) dL_law_264 rfl rfl ?_
  refine k_if_ne (a := (TsetRoom f (kScF G (i + 1)) (kScF G (i + 2)) (kScF G (i + 3))).1) dL_law_266 rfl (tgt := 281) rfl (by omega) (fun c266 : (TsetRoom f (kScF G (i + 1)) (kScF G (i + 2)) (kScF G (i + 3))).1 ≠ 0 => ?_) (fun c266 : (TsetRoom f (kScF G (i + 1)) (kScF G (i + 2)) (kScF G (i + 3))).1 = 0 => ?_)
  · skip
    refine k_goto dL_law_281 (tgt := 2523) rfl ?_
    refine k_forget 6 (k_loc (L' := [some (.ref (kScB G)), some (.ref pl), some (.ref o), some (.ref ol), some (.ref od), some (.int (iI ((i : Nat) : Int))), none, some (.int (iI ((TsetRoom f (kScF G (i + 1)) (kScF G (i + 2)) (kScF G (i + 3))).2.1))), none]) rfl ?_)
    refine k_forget 7 (k_loc (L' := [some (.ref (kScB G)), some (.ref pl), some (.ref o), some (.ref ol), some (.ref od), some (.int (iI ((i : Nat) : Int))), none, none, none]) rfl ?_)
    exact k_widen (by omega) (by omega) (IH _ _ _ _ _ _ _ hst9 hco2)
  · skip
    refine k_aload_n (pc1 := 270) dL_law_269 rfl rfl ?_
    refine k_iconst (pc1 := 271) dL_law_270 rfl ?_
    refine k_lald (i := 0) (pc1 := 272) dL_law_271 rfl hst9.2.2.2.1 (by decide) (by decide) (by decide) (k_val (v' := .long (Int32.toInt64 (iI (TsetRoom f (kScF G (i + 1)) (kScF G (i + 2)) (kScF G (i + 3))).2.1))) (congrArg Value.long (hX1 (by omega))) ?_)
    refine k_iload (pc1 := 274) dL_law_272 rfl rfl ?_
    refine k_i2l (pc1 := 275) dL_law_274 rfl ?_
    refine k_lcmpE (pc1 := 276) dL_law_275 rfl (by first | rfl | (rw [if_pos (by omega)]; done) | (rw [if_neg (by omega)]; done) | (rw [if_pos (by omega)]; rfl) | (rw [if_neg (by omega)]; rfl)) ?_
    refine k_if_eq (a := 0) dL_law_276 rfl (tgt := 281) rfl (by decide) (fun _ => ?_) (fun c => absurd c (by decide))
    refine k_goto dL_law_281 (tgt := 2523) rfl ?_
    refine k_forget 6 (k_loc (L' := [some (.ref (kScB G)), some (.ref pl), some (.ref o), some (.ref ol), some (.ref od), some (.int (iI ((i : Nat) : Int))), none, some (.int (iI ((TsetRoom f (kScF G (i + 1)) (kScF G (i + 2)) (kScF G (i + 3))).2.1))), none]) rfl ?_)
    refine k_forget 7 (k_loc (L' := [some (.ref (kScB G)), some (.ref pl), some (.ref o), some (.ref ol), some (.ref od), some (.int (iI ((i : Nat) : Int))), none, none, none]) rfl ?_)
    exact k_widen (by omega) (by omega) (IH _ _ _ _ _ _ _ hst9 hco2)
theorem lc_setGap {l : Launch} {G : kG} {h : kAH} (hl : l.stackTraces = false) {pl o g r ol od : Nat} {γ : kGh} {A : kAb} {f : Nat → Int} {c9 : Int} {F9 : Nat → Int64} {D9 : Nat → UInt64} (hq : kLs9 G h pl o g r ol od γ A f c9 F9 D9) (hnx9 : f 2 < 1000000) (hsr : ∀ j : Nat, -2147483648 ≤ kScF G j ∧ kScF G j < 2147483648) {i : Nat} (hi6 : i + 6 ≤ kScL G) (hN9 : kScL G ≤ 1000000) {Φ : Option Value → kAH → Prop} {k n : Nat} (IH : ∀ (h' : kAH) (γ' : kGh) (A' : kAb) (f' : Nat → Int) (c' : Int) (F' : Nat → Int64) (D' : Nat → UInt64), kLs9 G h' pl o g r ol od γ' A' f' c' F' D' → f' 2 ≤ f 2 + 1 → kW l G m_L_law 12 Φ kNo k n 2523 [some (.ref (kScB G)), some (.ref pl), some (.ref o), some (.ref ol), some (.ref od), some (.int (iI ((i : Nat) : Int))), none, none, none] [] h') : kW l G m_L_law 12 Φ kNo (k + 40) (n + 4800) 284 [some (.ref (kScB G)), some (.ref pl), some (.ref o), some (.ref ol), some (.ref od), some (.int (iI ((i : Nat) : Int))), none, none, none] [] h := by
  have hC := hq.1
  obtain ⟨hco0, hco1, hco2⟩ : kCo f (TsetGap f (kScF G (i + 1))) := co_setGap (kScF G (i + 1))
  refine k_aload_n (pc1 := 285) dL_law_284 rfl rfl ?_
  refine k_aload_n (pc1 := 286) dL_law_285 rfl rfl ?_
  refine k_iload (pc1 := 288) dL_law_286 rfl rfl ?_
  refine k_iconst (pc1 := 289) dL_law_288 rfl ?_
  refine k_iadd (a := ((i : Nat) : Int)) (b := 1) (pc1 := 290) dL_law_289 rfl ?_
  refine k_sld (i := (((i : Nat) : Int) + 1)) (pc1 := 291) dL_law_290 rfl rfl (by omega) (by omega) hN9 (k_val (v' := .int (iI (kScF G (i + 1)))) (by rw [show ((((i : Nat) : Int) + 1)).toNat = i + 1 by omega]) ?_)
  refine k_aload_n (pc1 := 292) dL_law_291 rfl rfl ?_
  refine k_callSX dL_law_292 rfl rfl lk_RL_145 o_L_setGap (as := [.ref pl, .int (iI (kScF G (i + 1))), .ref ol]) rfl rfl (w_L_setGap hl hC (hsr _) hq.2.2.2.1 hq.2.2.1.2.2.2.1) (by decide) (by decide) (by omega) (by omega) (k8 rfl) (fun v h1 hv => ?_) (fun E h9 z => z.elim)
  obtain ⟨hv1, ⟨F1, hO1, hX1⟩, γ1, A1, hC1, hO2, hfr1⟩ := hv
  subst hv1
  refine k_st (st' := [.int (iI ((TsetGap f (kScF G (i + 1))).1))]) rfl ?_
  obtain ⟨hM1, ht1, hD1⟩ := l9_call hq hC1 hO1 hO2 hfr1
  refine k_istore (pc1 := 297) dL_law_295 rfl (by decide) (k_loc (L' := [some (.ref (kScB G)), some (.ref pl), some (.ref o), some (.ref ol), some (.ref od), some (.int (iI ((i : Nat) : Int))), some (.int (iI ((TsetGap f (kScF G (i + 1))).1))), none, none]) rfl ?_)
  refine k_aload_n (pc1 := 298) dL_law_297 rfl rfl ?_
  refine k_aload_n (pc1 := 299) dL_law_298 rfl rfl ?_
  refine k_iload (pc1 := 301) dL_law_299 rfl rfl ?_
  refine k_iconst (pc1 := 302) dL_law_301 rfl ?_
  refine k_iadd (a := ((i : Nat) : Int)) (b := 1) (pc1 := 303) dL_law_302 rfl ?_
  refine k_sld (i := (((i : Nat) : Int) + 1)) (pc1 := 304) dL_law_303 rfl rfl (by omega) (by omega) hN9 (k_val (v' := .int (iI (kScF G (i + 1)))) (by rw [show ((((i : Nat) : Int) + 1)).toNat = i + 1 by omega]) ?_)
  refine k_callV dL_law_304 rfl lk_RL_148 o_X6_setGap (as := [.int (iI (kScF G (i + 1)))]) rfl rfl hM1.1 rfl rfl (w_X6_setGap hl hM1 hC.2.2 (kScF G (i + 1)) (hsr _)) (by decide) (by decide) (Nat.zero_le _) (Nat.zero_le _) (k8 rfl) (fun v h2 hv => ?_) (fun E h9 z => z.elim)
  obtain ⟨hv1, hM2, hF2⟩ := hv
  rw [hv1]
  refine k_st (st' := [.int (iI ((TsetGap f (kScF G (i + 1))).2.1))]) rfl ?_
  have hst9 := l9_ref hC1 hM1 ht1 hO1 hD1 hM2 hF2.w
  refine k_istore (pc1 := 309) dL_law_307 rfl (by decide) (k_loc (L' := [some (.ref (kScB G)), some (.ref pl), some (.ref o), some (.ref ol), some (.ref od), some (.int (iI ((i : Nat) : Int))), some (.int (iI ((TsetGap f (kScF G (i + 1))).1))), some (.int (iI ((TsetGap f (kScF G (i + 1))).2.1))), none]) rfl ?_)
  refine k_aload_n (pc1 := 310) dL_law_309 rfl rfl ?_
  refine k_callVP dL_law_310 rfl lk_RL_142 o_X6_thrown (w_thr hl hM2) (as := []) hM2.1 rfl rfl rfl rfl (by decide) (by decide) (k8 rfl) ?_
  refine k_iload (pc1 := 315) dL_law_313 rfl rfl ?_
  refine k_icmp_eq (a := (TsetGap f (kScF G (i + 1))).1) (b := (TsetGap f (kScF G (i + 1))).1) dL_law_315 rfl (tgt := 320) rfl (by omega) (by omega) (fun _ => ?_) (fun c => absurd rfl c)
  refine k_iload (pc1 := 322) dL_law_320 rfl rfl ?_
  refine k_if_ne (a := (TsetGap f (kScF G (i + 1))).1) dL_law_322 rfl (tgt := 337) rfl (by omega) (fun c322 : (TsetGap f (kScF G (i + 1))).1 ≠ 0 => ?_) (fun c322 : (TsetGap f (kScF G (i + 1))).1 = 0 => ?_)
  · skip
    refine k_goto dL_law_337 (tgt := 2523) rfl ?_
    refine k_forget 6 (k_loc (L' := [some (.ref (kScB G)), some (.ref pl), some (.ref o), some (.ref ol), some (.ref od), some (.int (iI ((i : Nat) : Int))), none, some (.int (iI ((TsetGap f (kScF G (i + 1))).2.1))), none]) rfl ?_)
    refine k_forget 7 (k_loc (L' := [some (.ref (kScB G)), some (.ref pl), some (.ref o), some (.ref ol), some (.ref od), some (.int (iI ((i : Nat) : Int))), none, none, none]) rfl ?_)
    exact k_widen (by omega) (by omega) (IH _ _ _ _ _ _ _ hst9 hco2)
  · skip
    refine k_aload_n (pc1 := 326) dL_law_325 rfl rfl ?_
    refine k_iconst (pc1 := 327) dL_law_326 rfl ?_
    refine k_lald (i := 0) (pc1 := 328) dL_law_327 rfl hst9.2.2.2.1 (by decide) (by decide) (by decide) (k_val (v' := .long (Int32.toInt64 (iI (TsetGap f (kScF G (i + 1))).2.1))) (congrArg Value.long (hX1 (by omega))) ?_)
    refine k_iload (pc1 := 330) dL_law_328 rfl rfl ?_
    refine k_i2l (pc1 := 331) dL_law_330 rfl ?_
    refine k_lcmpE (pc1 := 332) dL_law_331 rfl (by first | rfl | (rw [if_pos (by omega)]; done) | (rw [if_neg (by omega)]; done) | (rw [if_pos (by omega)]; rfl) | (rw [if_neg (by omega)]; rfl)) ?_
    refine k_if_eq (a := 0) dL_law_332 rfl (tgt := 337) rfl (by decide) (fun _ => ?_) (fun c => absurd c (by decide))
    refine k_goto dL_law_337 (tgt := 2523) rfl ?_
    refine k_forget 6 (k_loc (L' := [some (.ref (kScB G)), some (.ref pl), some (.ref o), some (.ref ol), some (.ref od), some (.int (iI ((i : Nat) : Int))), none, some (.int (iI ((TsetGap f (kScF G (i + 1))).2.1))), none]) rfl ?_)
    refine k_forget 7 (k_loc (L' := [some (.ref (kScB G)), some (.ref pl), some (.ref o), some (.ref ol), some (.ref od), some (.int (iI ((i : Nat) : Int))), none, none, none]) rfl ?_)
    exact k_widen (by omega) (by omega) (IH _ _ _ _ _ _ _ hst9 hco2)
theorem lc_seatsOf {l : Launch} {G : kG} {h : kAH} (hl : l.stackTraces = false) {pl o g r ol od : Nat} {γ : kGh} {A : kAb} {f : Nat → Int} {c9 : Int} {F9 : Nat → Int64} {D9 : Nat → UInt64} (hq : kLs9 G h pl o g r ol od γ A f c9 F9 D9) (hnx9 : f 2 < 1000000) (hsr : ∀ j : Nat, -2147483648 ≤ kScF G j ∧ kScF G j < 2147483648) {i : Nat} (hi6 : i + 6 ≤ kScL G) (hN9 : kScL G ≤ 1000000) {Φ : Option Value → kAH → Prop} {k n : Nat} (IH : ∀ (h' : kAH) (γ' : kGh) (A' : kAb) (f' : Nat → Int) (c' : Int) (F' : Nat → Int64) (D' : Nat → UInt64), kLs9 G h' pl o g r ol od γ' A' f' c' F' D' → f' 2 ≤ f 2 + 1 → kW l G m_L_law 12 Φ kNo k n 2523 [some (.ref (kScB G)), some (.ref pl), some (.ref o), some (.ref ol), some (.ref od), some (.int (iI ((i : Nat) : Int))), none, none, none] [] h') : kW l G m_L_law 12 Φ kNo (k + 40) (n + 4800) 340 [some (.ref (kScB G)), some (.ref pl), some (.ref o), some (.ref ol), some (.ref od), some (.int (iI ((i : Nat) : Int))), none, none, none] [] h := by
  have hC := hq.1
  obtain ⟨hco0, hco1, hco2⟩ : kCo f (TseatsOf f (kScF G (i + 1))) := co_seatsOf (kScF G (i + 1))
  refine k_aload_n (pc1 := 341) dL_law_340 rfl rfl ?_
  refine k_aload_n (pc1 := 342) dL_law_341 rfl rfl ?_
  refine k_iload (pc1 := 344) dL_law_342 rfl rfl ?_
  refine k_iconst (pc1 := 345) dL_law_344 rfl ?_
  refine k_iadd (a := ((i : Nat) : Int)) (b := 1) (pc1 := 346) dL_law_345 rfl ?_
  refine k_sld (i := (((i : Nat) : Int) + 1)) (pc1 := 347) dL_law_346 rfl rfl (by omega) (by omega) hN9 (k_val (v' := .int (iI (kScF G (i + 1)))) (by rw [show ((((i : Nat) : Int) + 1)).toNat = i + 1 by omega]) ?_)
  refine k_aload_n (pc1 := 348) dL_law_347 rfl rfl ?_
  refine k_callSX dL_law_348 rfl rfl lk_RL_149 o_L_seatsOf (as := [.ref pl, .int (iI (kScF G (i + 1))), .ref ol]) rfl rfl (w_L_seatsOf hl hC (hsr _) hq.2.2.2.1 hq.2.2.1.2.2.2.1) (by decide) (by decide) (by omega) (by omega) (k8 rfl) (fun v h1 hv => ?_) (fun E h9 z => z.elim)
  obtain ⟨hv1, ⟨F1, hO1, hX1⟩, γ1, A1, hC1, hO2, hfr1⟩ := hv
  subst hv1
  refine k_st (st' := [.int (iI ((TseatsOf f (kScF G (i + 1))).1))]) rfl ?_
  obtain ⟨hM1, ht1, hD1⟩ := l9_call hq hC1 hO1 hO2 hfr1
  refine k_istore (pc1 := 353) dL_law_351 rfl (by decide) (k_loc (L' := [some (.ref (kScB G)), some (.ref pl), some (.ref o), some (.ref ol), some (.ref od), some (.int (iI ((i : Nat) : Int))), some (.int (iI ((TseatsOf f (kScF G (i + 1))).1))), none, none]) rfl ?_)
  refine k_aload_n (pc1 := 354) dL_law_353 rfl rfl ?_
  refine k_aload_n (pc1 := 355) dL_law_354 rfl rfl ?_
  refine k_iload (pc1 := 357) dL_law_355 rfl rfl ?_
  refine k_iconst (pc1 := 358) dL_law_357 rfl ?_
  refine k_iadd (a := ((i : Nat) : Int)) (b := 1) (pc1 := 359) dL_law_358 rfl ?_
  refine k_sld (i := (((i : Nat) : Int) + 1)) (pc1 := 360) dL_law_359 rfl rfl (by omega) (by omega) hN9 (k_val (v' := .int (iI (kScF G (i + 1)))) (by rw [show ((((i : Nat) : Int) + 1)).toNat = i + 1 by omega]) ?_)
  refine k_callV dL_law_360 rfl lk_RL_151 o_X6_seatsOf (as := [.int (iI (kScF G (i + 1)))]) rfl rfl hM1.1 rfl rfl (w_X6_seatsOf hl hM1 hC.2.2 (kScF G (i + 1)) (hsr _)) (by decide) (by decide) (Nat.zero_le _) (Nat.zero_le _) (k8 rfl) (fun v h2 hv => ?_) (fun E h9 z => z.elim)
  obtain ⟨hv1, hM2, hF2⟩ := hv
  rw [hv1]
  refine k_st (st' := [.int (iI ((TseatsOf f (kScF G (i + 1))).2.1))]) rfl ?_
  have hst9 := l9_ref hC1 hM1 ht1 hO1 hD1 hM2 hF2.w
  refine k_istore (pc1 := 365) dL_law_363 rfl (by decide) (k_loc (L' := [some (.ref (kScB G)), some (.ref pl), some (.ref o), some (.ref ol), some (.ref od), some (.int (iI ((i : Nat) : Int))), some (.int (iI ((TseatsOf f (kScF G (i + 1))).1))), some (.int (iI ((TseatsOf f (kScF G (i + 1))).2.1))), none]) rfl ?_)
  refine k_aload_n (pc1 := 366) dL_law_365 rfl rfl ?_
  refine k_callVP dL_law_366 rfl lk_RL_142 o_X6_thrown (w_thr hl hM2) (as := []) hM2.1 rfl rfl rfl rfl (by decide) (by decide) (k8 rfl) ?_
  refine k_iload (pc1 := 371) dL_law_369 rfl rfl ?_
  refine k_icmp_eq (a := (TseatsOf f (kScF G (i + 1))).1) (b := (TseatsOf f (kScF G (i + 1))).1) dL_law_371 rfl (tgt := 376) rfl (by omega) (by omega) (fun _ => ?_) (fun c => absurd rfl c)
  refine k_iload (pc1 := 378) dL_law_376 rfl rfl ?_
  refine k_if_ne (a := (TseatsOf f (kScF G (i + 1))).1) dL_law_378 rfl (tgt := 393) rfl (by omega) (fun c378 : (TseatsOf f (kScF G (i + 1))).1 ≠ 0 => ?_) (fun c378 : (TseatsOf f (kScF G (i + 1))).1 = 0 => ?_)
  · skip
    refine k_goto dL_law_393 (tgt := 2523) rfl ?_
    refine k_forget 6 (k_loc (L' := [some (.ref (kScB G)), some (.ref pl), some (.ref o), some (.ref ol), some (.ref od), some (.int (iI ((i : Nat) : Int))), none, some (.int (iI ((TseatsOf f (kScF G (i + 1))).2.1))), none]) rfl ?_)
    refine k_forget 7 (k_loc (L' := [some (.ref (kScB G)), some (.ref pl), some (.ref o), some (.ref ol), some (.ref od), some (.int (iI ((i : Nat) : Int))), none, none, none]) rfl ?_)
    exact k_widen (by omega) (by omega) (IH _ _ _ _ _ _ _ hst9 hco2)
  · skip
    refine k_aload_n (pc1 := 382) dL_law_381 rfl rfl ?_
    refine k_iconst (pc1 := 383) dL_law_382 rfl ?_
    refine k_lald (i := 0) (pc1 := 384) dL_law_383 rfl hst9.2.2.2.1 (by decide) (by decide) (by decide) (k_val (v' := .long (Int32.toInt64 (iI (TseatsOf f (kScF G (i + 1))).2.1))) (congrArg Value.long (hX1 (by omega))) ?_)
    refine k_iload (pc1 := 386) dL_law_384 rfl rfl ?_
    refine k_i2l (pc1 := 387) dL_law_386 rfl ?_
    refine k_lcmpE (pc1 := 388) dL_law_387 rfl (by first | rfl | (rw [if_pos (by omega)]; done) | (rw [if_neg (by omega)]; done) | (rw [if_pos (by omega)]; rfl) | (rw [if_neg (by omega)]; rfl)) ?_
    refine k_if_eq (a := 0) dL_law_388 rfl (tgt := 393) rfl (by decide) (fun _ => ?_) (fun c => absurd c (by decide))
    refine k_goto dL_law_393 (tgt := 2523) rfl ?_
    refine k_forget 6 (k_loc (L' := [some (.ref (kScB G)), some (.ref pl), some (.ref o), some (.ref ol), some (.ref od), some (.int (iI ((i : Nat) : Int))), none, some (.int (iI ((TseatsOf f (kScF G (i + 1))).2.1))), none]) rfl ?_)
    refine k_forget 7 (k_loc (L' := [some (.ref (kScB G)), some (.ref pl), some (.ref o), some (.ref ol), some (.ref od), some (.int (iI ((i : Nat) : Int))), none, none, none]) rfl ?_)
    exact k_widen (by omega) (by omega) (IH _ _ _ _ _ _ _ hst9 hco2)
theorem lc_houseOf {l : Launch} {G : kG} {h : kAH} (hl : l.stackTraces = false) {pl o g r ol od : Nat} {γ : kGh} {A : kAb} {f : Nat → Int} {c9 : Int} {F9 : Nat → Int64} {D9 : Nat → UInt64} (hq : kLs9 G h pl o g r ol od γ A f c9 F9 D9) (hnx9 : f 2 < 1000000) (hsr : ∀ j : Nat, -2147483648 ≤ kScF G j ∧ kScF G j < 2147483648) {i : Nat} (hi6 : i + 6 ≤ kScL G) (hN9 : kScL G ≤ 1000000) {Φ : Option Value → kAH → Prop} {k n : Nat} (IH : ∀ (h' : kAH) (γ' : kGh) (A' : kAb) (f' : Nat → Int) (c' : Int) (F' : Nat → Int64) (D' : Nat → UInt64), kLs9 G h' pl o g r ol od γ' A' f' c' F' D' → f' 2 ≤ f 2 + 1 → kW l G m_L_law 12 Φ kNo k n 2523 [some (.ref (kScB G)), some (.ref pl), some (.ref o), some (.ref ol), some (.ref od), some (.int (iI ((i : Nat) : Int))), none, none, none] [] h') : kW l G m_L_law 12 Φ kNo (k + 40) (n + 4800) 396 [some (.ref (kScB G)), some (.ref pl), some (.ref o), some (.ref ol), some (.ref od), some (.int (iI ((i : Nat) : Int))), none, none, none] [] h := by
  have hC := hq.1
  obtain ⟨hco0, hco1, hco2⟩ : kCo f (ThouseOf f (kScF G (i + 1))) := co_houseOf (kScF G (i + 1))
  refine k_aload_n (pc1 := 397) dL_law_396 rfl rfl ?_
  refine k_aload_n (pc1 := 398) dL_law_397 rfl rfl ?_
  refine k_iload (pc1 := 400) dL_law_398 rfl rfl ?_
  refine k_iconst (pc1 := 401) dL_law_400 rfl ?_
  refine k_iadd (a := ((i : Nat) : Int)) (b := 1) (pc1 := 402) dL_law_401 rfl ?_
  refine k_sld (i := (((i : Nat) : Int) + 1)) (pc1 := 403) dL_law_402 rfl rfl (by omega) (by omega) hN9 (k_val (v' := .int (iI (kScF G (i + 1)))) (by rw [show ((((i : Nat) : Int) + 1)).toNat = i + 1 by omega]) ?_)
  refine k_aload_n (pc1 := 404) dL_law_403 rfl rfl ?_
  refine k_callSX dL_law_404 rfl rfl lk_RL_152 o_L_houseOf (as := [.ref pl, .int (iI (kScF G (i + 1))), .ref ol]) rfl rfl (w_L_houseOf hl hC (hsr _) hq.2.2.2.1 hq.2.2.1.2.2.2.1) (by decide) (by decide) (by omega) (by omega) (k8 rfl) (fun v h1 hv => ?_) (fun E h9 z => z.elim)
  obtain ⟨hv1, ⟨F1, hO1, hX1⟩, γ1, A1, hC1, hO2, hfr1⟩ := hv
  subst hv1
  refine k_st (st' := [.int (iI ((ThouseOf f (kScF G (i + 1))).1))]) rfl ?_
  obtain ⟨hM1, ht1, hD1⟩ := l9_call hq hC1 hO1 hO2 hfr1
  refine k_istore (pc1 := 409) dL_law_407 rfl (by decide) (k_loc (L' := [some (.ref (kScB G)), some (.ref pl), some (.ref o), some (.ref ol), some (.ref od), some (.int (iI ((i : Nat) : Int))), some (.int (iI ((ThouseOf f (kScF G (i + 1))).1))), none, none]) rfl ?_)
  refine k_aload_n (pc1 := 410) dL_law_409 rfl rfl ?_
  refine k_aload_n (pc1 := 411) dL_law_410 rfl rfl ?_
  refine k_iload (pc1 := 413) dL_law_411 rfl rfl ?_
  refine k_iconst (pc1 := 414) dL_law_413 rfl ?_
  refine k_iadd (a := ((i : Nat) : Int)) (b := 1) (pc1 := 415) dL_law_414 rfl ?_
  refine k_sld (i := (((i : Nat) : Int) + 1)) (pc1 := 416) dL_law_415 rfl rfl (by omega) (by omega) hN9 (k_val (v' := .int (iI (kScF G (i + 1)))) (by rw [show ((((i : Nat) : Int) + 1)).toNat = i + 1 by omega]) ?_)
  refine k_callV dL_law_416 rfl lk_RL_154 o_X6_houseOf (as := [.int (iI (kScF G (i + 1)))]) rfl rfl hM1.1 rfl rfl (w_X6_houseOf hl hM1 hC.2.2 (kScF G (i + 1)) (hsr _)) (by decide) (by decide) (Nat.zero_le _) (Nat.zero_le _) (k8 rfl) (fun v h2 hv => ?_) (fun E h9 z => z.elim)
  obtain ⟨hv1, hM2, hF2⟩ := hv
  rw [hv1]
  refine k_st (st' := [.int (iI ((ThouseOf f (kScF G (i + 1))).2.1))]) rfl ?_
  have hst9 := l9_ref hC1 hM1 ht1 hO1 hD1 hM2 hF2.w
  refine k_istore (pc1 := 421) dL_law_419 rfl (by decide) (k_loc (L' := [some (.ref (kScB G)), some (.ref pl), some (.ref o), some (.ref ol), some (.ref od), some (.int (iI ((i : Nat) : Int))), some (.int (iI ((ThouseOf f (kScF G (i + 1))).1))), some (.int (iI ((ThouseOf f (kScF G (i + 1))).2.1))), none]) rfl ?_)
  refine k_aload_n (pc1 := 422) dL_law_421 rfl rfl ?_
  refine k_callVP dL_law_422 rfl lk_RL_142 o_X6_thrown (w_thr hl hM2) (as := []) hM2.1 rfl rfl rfl rfl (by decide) (by decide) (k8 rfl) ?_
  refine k_iload (pc1 := 427) dL_law_425 rfl rfl ?_
  refine k_icmp_eq (a := (ThouseOf f (kScF G (i + 1))).1) (b := (ThouseOf f (kScF G (i + 1))).1) dL_law_427 rfl (tgt := 432) rfl (by omega) (by omega) (fun _ => ?_) (fun c => absurd rfl c)
  refine k_iload (pc1 := 434) dL_law_432 rfl rfl ?_
  refine k_if_ne (a := (ThouseOf f (kScF G (i + 1))).1) dL_law_434 rfl (tgt := 449) rfl (by omega) (fun c434 : (ThouseOf f (kScF G (i + 1))).1 ≠ 0 => ?_) (fun c434 : (ThouseOf f (kScF G (i + 1))).1 = 0 => ?_)
  · skip
    refine k_goto dL_law_449 (tgt := 2523) rfl ?_
    refine k_forget 6 (k_loc (L' := [some (.ref (kScB G)), some (.ref pl), some (.ref o), some (.ref ol), some (.ref od), some (.int (iI ((i : Nat) : Int))), none, some (.int (iI ((ThouseOf f (kScF G (i + 1))).2.1))), none]) rfl ?_)
    refine k_forget 7 (k_loc (L' := [some (.ref (kScB G)), some (.ref pl), some (.ref o), some (.ref ol), some (.ref od), some (.int (iI ((i : Nat) : Int))), none, none, none]) rfl ?_)
    exact k_widen (by omega) (by omega) (IH _ _ _ _ _ _ _ hst9 hco2)
  · skip
    refine k_aload_n (pc1 := 438) dL_law_437 rfl rfl ?_
    refine k_iconst (pc1 := 439) dL_law_438 rfl ?_
    refine k_lald (i := 0) (pc1 := 440) dL_law_439 rfl hst9.2.2.2.1 (by decide) (by decide) (by decide) (k_val (v' := .long (Int32.toInt64 (iI (ThouseOf f (kScF G (i + 1))).2.1))) (congrArg Value.long (hX1 (by omega))) ?_)
    refine k_iload (pc1 := 442) dL_law_440 rfl rfl ?_
    refine k_i2l (pc1 := 443) dL_law_442 rfl ?_
    refine k_lcmpE (pc1 := 444) dL_law_443 rfl (by first | rfl | (rw [if_pos (by omega)]; done) | (rw [if_neg (by omega)]; done) | (rw [if_pos (by omega)]; rfl) | (rw [if_neg (by omega)]; rfl)) ?_
    refine k_if_eq (a := 0) dL_law_444 rfl (tgt := 449) rfl (by decide) (fun _ => ?_) (fun c => absurd c (by decide))
    refine k_goto dL_law_449 (tgt := 2523) rfl ?_
    refine k_forget 6 (k_loc (L' := [some (.ref (kScB G)), some (.ref pl), some (.ref o), some (.ref ol), some (.ref od), some (.int (iI ((i : Nat) : Int))), none, some (.int (iI ((ThouseOf f (kScF G (i + 1))).2.1))), none]) rfl ?_)
    refine k_forget 7 (k_loc (L' := [some (.ref (kScB G)), some (.ref pl), some (.ref o), some (.ref ol), some (.ref od), some (.int (iI ((i : Nat) : Int))), none, none, none]) rfl ?_)
    exact k_widen (by omega) (by omega) (IH _ _ _ _ _ _ _ hst9 hco2)
theorem lc_ask {l : Launch} {G : kG} {h : kAH} (hl : l.stackTraces = false) {pl o g r ol od : Nat} {γ : kGh} {A : kAb} {f : Nat → Int} {c9 : Int} {F9 : Nat → Int64} {D9 : Nat → UInt64} (hq : kLs9 G h pl o g r ol od γ A f c9 F9 D9) (hnx9 : f 2 < 1000000) (hsr : ∀ j : Nat, -2147483648 ≤ kScF G j ∧ kScF G j < 2147483648) {i : Nat} (hi6 : i + 6 ≤ kScL G) (hN9 : kScL G ≤ 1000000) {Φ : Option Value → kAH → Prop} {k n : Nat} (IH : ∀ (h' : kAH) (γ' : kGh) (A' : kAb) (f' : Nat → Int) (c' : Int) (F' : Nat → Int64) (D' : Nat → UInt64), kLs9 G h' pl o g r ol od γ' A' f' c' F' D' → f' 2 ≤ f 2 + 1 → kW l G m_L_law 12 Φ kNo k n 2523 [some (.ref (kScB G)), some (.ref pl), some (.ref o), some (.ref ol), some (.ref od), some (.int (iI ((i : Nat) : Int))), none, none, none] [] h') : kW l G m_L_law 12 Φ kNo (k + 40) (n + 4800) 452 [some (.ref (kScB G)), some (.ref pl), some (.ref o), some (.ref ol), some (.ref od), some (.int (iI ((i : Nat) : Int))), none, none, none] [] h := by
  have hC := hq.1
  obtain ⟨hco0, hco1, hco2⟩ : kCo f (Task f (kScF G (i + 1)) (kScF G (i + 2)) (kScF G (i + 3)) (kScF G (i + 4)) (kScF G (i + 5))) := co_ask hC.2.2 (kScF G (i + 1)) (kScF G (i + 2)) (kScF G (i + 3)) (kScF G (i + 4)) (kScF G (i + 5))
  refine k_aload_n (pc1 := 453) dL_law_452 rfl rfl ?_
  refine k_aload_n (pc1 := 454) dL_law_453 rfl rfl ?_
  refine k_iload (pc1 := 456) dL_law_454 rfl rfl ?_
  refine k_iconst (pc1 := 457) dL_law_456 rfl ?_
  refine k_iadd (a := ((i : Nat) : Int)) (b := 1) (pc1 := 458) dL_law_457 rfl ?_
  refine k_sld (i := (((i : Nat) : Int) + 1)) (pc1 := 459) dL_law_458 rfl rfl (by omega) (by omega) hN9 (k_val (v' := .int (iI (kScF G (i + 1)))) (by rw [show ((((i : Nat) : Int) + 1)).toNat = i + 1 by omega]) ?_)
  refine k_aload_n (pc1 := 460) dL_law_459 rfl rfl ?_
  refine k_iload (pc1 := 462) dL_law_460 rfl rfl ?_
  refine k_iconst (pc1 := 463) dL_law_462 rfl ?_
  refine k_iadd (a := ((i : Nat) : Int)) (b := 2) (pc1 := 464) dL_law_463 rfl ?_
  refine k_sld (i := (((i : Nat) : Int) + 2)) (pc1 := 465) dL_law_464 rfl rfl (by omega) (by omega) hN9 (k_val (v' := .int (iI (kScF G (i + 2)))) (by rw [show ((((i : Nat) : Int) + 2)).toNat = i + 2 by omega]) ?_)
  refine k_aload_n (pc1 := 466) dL_law_465 rfl rfl ?_
  refine k_iload (pc1 := 468) dL_law_466 rfl rfl ?_
  refine k_iconst (pc1 := 469) dL_law_468 rfl ?_
  refine k_iadd (a := ((i : Nat) : Int)) (b := 3) (pc1 := 470) dL_law_469 rfl ?_
  refine k_sld (i := (((i : Nat) : Int) + 3)) (pc1 := 471) dL_law_470 rfl rfl (by omega) (by omega) hN9 (k_val (v' := .int (iI (kScF G (i + 3)))) (by rw [show ((((i : Nat) : Int) + 3)).toNat = i + 3 by omega]) ?_)
  refine k_aload_n (pc1 := 472) dL_law_471 rfl rfl ?_
  refine k_iload (pc1 := 474) dL_law_472 rfl rfl ?_
  refine k_iconst (pc1 := 475) dL_law_474 rfl ?_
  refine k_iadd (a := ((i : Nat) : Int)) (b := 4) (pc1 := 476) dL_law_475 rfl ?_
  refine k_sld (i := (((i : Nat) : Int) + 4)) (pc1 := 477) dL_law_476 rfl rfl (by omega) (by omega) hN9 (k_val (v' := .int (iI (kScF G (i + 4)))) (by rw [show ((((i : Nat) : Int) + 4)).toNat = i + 4 by omega]) ?_)
  refine k_aload_n (pc1 := 478) dL_law_477 rfl rfl ?_
  refine k_iload (pc1 := 480) dL_law_478 rfl rfl ?_
  refine k_iconst (pc1 := 481) dL_law_480 rfl ?_
  refine k_iadd (a := ((i : Nat) : Int)) (b := 5) (pc1 := 482) dL_law_481 rfl ?_
  refine k_sld (i := (((i : Nat) : Int) + 5)) (pc1 := 483) dL_law_482 rfl rfl (by omega) (by omega) hN9 (k_val (v' := .int (iI (kScF G (i + 5)))) (by rw [show ((((i : Nat) : Int) + 5)).toNat = i + 5 by omega]) ?_)
  refine k_aload_n (pc1 := 484) dL_law_483 rfl rfl ?_
  refine k_callSX dL_law_484 rfl rfl lk_RL_155 o_L_ask (as := [.ref pl, .int (iI (kScF G (i + 1))), .int (iI (kScF G (i + 2))), .int (iI (kScF G (i + 3))), .int (iI (kScF G (i + 4))), .int (iI (kScF G (i + 5))), .ref ol]) rfl rfl (w_L_ask hl hC hnx9 (hsr _) (hsr _) (hsr _) (hsr _) (hsr _) hq.2.2.2.1 hq.2.2.1.2.2.2.1) (by decide) (by decide) (by omega) (by omega) (k8 rfl) (fun v h1 hv => ?_) (fun E h9 z => z.elim)
  obtain ⟨hv1, ⟨F1, hO1, hX1⟩, γ1, A1, hC1, hO2, hfr1⟩ := hv
  subst hv1
  refine k_st (st' := [.int (iI ((Task f (kScF G (i + 1)) (kScF G (i + 2)) (kScF G (i + 3)) (kScF G (i + 4)) (kScF G (i + 5))).1))]) rfl ?_
  obtain ⟨hM1, ht1, hD1⟩ := l9_call hq hC1 hO1 hO2 hfr1
  refine k_istore (pc1 := 489) dL_law_487 rfl (by decide) (k_loc (L' := [some (.ref (kScB G)), some (.ref pl), some (.ref o), some (.ref ol), some (.ref od), some (.int (iI ((i : Nat) : Int))), some (.int (iI ((Task f (kScF G (i + 1)) (kScF G (i + 2)) (kScF G (i + 3)) (kScF G (i + 4)) (kScF G (i + 5))).1))), none, none]) rfl ?_)
  refine k_aload_n (pc1 := 490) dL_law_489 rfl rfl ?_
  refine k_aload_n (pc1 := 491) dL_law_490 rfl rfl ?_
  refine k_iload (pc1 := 493) dL_law_491 rfl rfl ?_
  refine k_iconst (pc1 := 494) dL_law_493 rfl ?_
  refine k_iadd (a := ((i : Nat) : Int)) (b := 1) (pc1 := 495) dL_law_494 rfl ?_
  refine k_sld (i := (((i : Nat) : Int) + 1)) (pc1 := 496) dL_law_495 rfl rfl (by omega) (by omega) hN9 (k_val (v' := .int (iI (kScF G (i + 1)))) (by rw [show ((((i : Nat) : Int) + 1)).toNat = i + 1 by omega]) ?_)
  refine k_aload_n (pc1 := 497) dL_law_496 rfl rfl ?_
  refine k_iload (pc1 := 499) dL_law_497 rfl rfl ?_
  refine k_iconst (pc1 := 500) dL_law_499 rfl ?_
  refine k_iadd (a := ((i : Nat) : Int)) (b := 2) (pc1 := 501) dL_law_500 rfl ?_
  refine k_sld (i := (((i : Nat) : Int) + 2)) (pc1 := 502) dL_law_501 rfl rfl (by omega) (by omega) hN9 (k_val (v' := .int (iI (kScF G (i + 2)))) (by rw [show ((((i : Nat) : Int) + 2)).toNat = i + 2 by omega]) ?_)
  refine k_aload_n (pc1 := 503) dL_law_502 rfl rfl ?_
  refine k_iload (pc1 := 505) dL_law_503 rfl rfl ?_
  refine k_iconst (pc1 := 506) dL_law_505 rfl ?_
  refine k_iadd (a := ((i : Nat) : Int)) (b := 3) (pc1 := 507) dL_law_506 rfl ?_
  refine k_sld (i := (((i : Nat) : Int) + 3)) (pc1 := 508) dL_law_507 rfl rfl (by omega) (by omega) hN9 (k_val (v' := .int (iI (kScF G (i + 3)))) (by rw [show ((((i : Nat) : Int) + 3)).toNat = i + 3 by omega]) ?_)
  refine k_aload_n (pc1 := 509) dL_law_508 rfl rfl ?_
  refine k_iload (pc1 := 511) dL_law_509 rfl rfl ?_
  refine k_iconst (pc1 := 512) dL_law_511 rfl ?_
  refine k_iadd (a := ((i : Nat) : Int)) (b := 4) (pc1 := 513) dL_law_512 rfl ?_
  refine k_sld (i := (((i : Nat) : Int) + 4)) (pc1 := 514) dL_law_513 rfl rfl (by omega) (by omega) hN9 (k_val (v' := .int (iI (kScF G (i + 4)))) (by rw [show ((((i : Nat) : Int) + 4)).toNat = i + 4 by omega]) ?_)
  refine k_aload_n (pc1 := 515) dL_law_514 rfl rfl ?_
  refine k_iload (pc1 := 517) dL_law_515 rfl rfl ?_
  refine k_iconst (pc1 := 518) dL_law_517 rfl ?_
  refine k_iadd (a := ((i : Nat) : Int)) (b := 5) (pc1 := 519) dL_law_518 rfl ?_
  refine k_sld (i := (((i : Nat) : Int) + 5)) (pc1 := 520) dL_law_519 rfl rfl (by omega) (by omega) hN9 (k_val (v' := .int (iI (kScF G (i + 5)))) (by rw [show ((((i : Nat) : Int) + 5)).toNat = i + 5 by omega]) ?_)
  refine k_callV dL_law_520 rfl lk_RL_158 o_X6_ask (as := [.int (iI (kScF G (i + 1))), .int (iI (kScF G (i + 2))), .int (iI (kScF G (i + 3))), .int (iI (kScF G (i + 4))), .int (iI (kScF G (i + 5)))]) rfl rfl hM1.1 rfl rfl (w_X6_ask hl hM1 hC.2.2 (kScF G (i + 1)) (kScF G (i + 2)) (kScF G (i + 3)) (kScF G (i + 4)) (kScF G (i + 5)) (hsr _) (hsr _) (hsr _) (hsr _) (hsr _)) (by decide) (by decide) (Nat.zero_le _) (Nat.zero_le _) (k8 rfl) (fun v h2 hv => ?_) (fun E h9 z => z.elim)
  obtain ⟨hv1, hM2, hF2⟩ := hv
  rw [hv1]
  refine k_st (st' := [.int (iI ((Task f (kScF G (i + 1)) (kScF G (i + 2)) (kScF G (i + 3)) (kScF G (i + 4)) (kScF G (i + 5))).2.1))]) rfl ?_
  have hst9 := l9_ref hC1 hM1 ht1 hO1 hD1 hM2 hF2.w
  refine k_istore (pc1 := 525) dL_law_523 rfl (by decide) (k_loc (L' := [some (.ref (kScB G)), some (.ref pl), some (.ref o), some (.ref ol), some (.ref od), some (.int (iI ((i : Nat) : Int))), some (.int (iI ((Task f (kScF G (i + 1)) (kScF G (i + 2)) (kScF G (i + 3)) (kScF G (i + 4)) (kScF G (i + 5))).1))), some (.int (iI ((Task f (kScF G (i + 1)) (kScF G (i + 2)) (kScF G (i + 3)) (kScF G (i + 4)) (kScF G (i + 5))).2.1))), none]) rfl ?_)
  refine k_aload_n (pc1 := 526) dL_law_525 rfl rfl ?_
  refine k_callVP dL_law_526 rfl lk_RL_142 o_X6_thrown (w_thr hl hM2) (as := []) hM2.1 rfl rfl rfl rfl (by decide) (by decide) (k8 rfl) ?_
  refine k_iload (pc1 := 531) dL_law_529 rfl rfl ?_
  refine k_icmp_eq (a := (Task f (kScF G (i + 1)) (kScF G (i + 2)) (kScF G (i + 3)) (kScF G (i + 4)) (kScF G (i + 5))).1) (b := (Task f (kScF G (i + 1)) (kScF G (i + 2)) (kScF G (i + 3)) (kScF G (i + 4)) (kScF G (i + 5))).1) dL_law_531 rfl (tgt := 536) rfl (by omega) (by omega) (fun _ => ?_) (fun c => absurd rfl c)
  refine k_iload (pc1 := 538) dL_law_536 rfl rfl ?_
  refine k_if_ne (a := (Task f (kScF G (i + 1)) (kScF G (i + 2)) (kScF G (i + 3)) (kScF G (i + 4)) (kScF G (i + 5))).1) dL_law_538 rfl (tgt := 553) rfl (by omega) (fun c538 : (Task f (kScF G (i + 1)) (kScF G (i + 2)) (kScF G (i + 3)) (kScF G (i + 4)) (kScF G (i + 5))).1 ≠ 0 => ?_) (fun c538 : (Task f (kScF G (i + 1)) (kScF G (i + 2)) (kScF G (i + 3)) (kScF G (i + 4)) (kScF G (i + 5))).1 = 0 => ?_)
  · skip
    refine k_goto dL_law_553 (tgt := 2523) rfl ?_
    refine k_forget 6 (k_loc (L' := [some (.ref (kScB G)), some (.ref pl), some (.ref o), some (.ref ol), some (.ref od), some (.int (iI ((i : Nat) : Int))), none, some (.int (iI ((Task f (kScF G (i + 1)) (kScF G (i + 2)) (kScF G (i + 3)) (kScF G (i + 4)) (kScF G (i + 5))).2.1))), none]) rfl ?_)
    refine k_forget 7 (k_loc (L' := [some (.ref (kScB G)), some (.ref pl), some (.ref o), some (.ref ol), some (.ref od), some (.int (iI ((i : Nat) : Int))), none, none, none]) rfl ?_)
    exact k_widen (by omega) (by omega) (IH _ _ _ _ _ _ _ hst9 hco2)
  · skip
    refine k_aload_n (pc1 := 542) dL_law_541 rfl rfl ?_
    refine k_iconst (pc1 := 543) dL_law_542 rfl ?_
    refine k_lald (i := 0) (pc1 := 544) dL_law_543 rfl hst9.2.2.2.1 (by decide) (by decide) (by decide) (k_val (v' := .long (Int32.toInt64 (iI (Task f (kScF G (i + 1)) (kScF G (i + 2)) (kScF G (i + 3)) (kScF G (i + 4)) (kScF G (i + 5))).2.1))) (congrArg Value.long (hX1 (by omega))) ?_)
    refine k_iload (pc1 := 546) dL_law_544 rfl rfl ?_
    refine k_i2l (pc1 := 547) dL_law_546 rfl ?_
    refine k_lcmpE (pc1 := 548) dL_law_547 rfl (by first | rfl | (rw [if_pos (by omega)]; done) | (rw [if_neg (by omega)]; done) | (rw [if_pos (by omega)]; rfl) | (rw [if_neg (by omega)]; rfl)) ?_
    refine k_if_eq (a := 0) dL_law_548 rfl (tgt := 553) rfl (by decide) (fun _ => ?_) (fun c => absurd c (by decide))
    refine k_goto dL_law_553 (tgt := 2523) rfl ?_
    refine k_forget 6 (k_loc (L' := [some (.ref (kScB G)), some (.ref pl), some (.ref o), some (.ref ol), some (.ref od), some (.int (iI ((i : Nat) : Int))), none, some (.int (iI ((Task f (kScF G (i + 1)) (kScF G (i + 2)) (kScF G (i + 3)) (kScF G (i + 4)) (kScF G (i + 5))).2.1))), none]) rfl ?_)
    refine k_forget 7 (k_loc (L' := [some (.ref (kScB G)), some (.ref pl), some (.ref o), some (.ref ol), some (.ref od), some (.int (iI ((i : Nat) : Int))), none, none, none]) rfl ?_)
    exact k_widen (by omega) (by omega) (IH _ _ _ _ _ _ _ hst9 hco2)
theorem lc_extend {l : Launch} {G : kG} {h : kAH} (hl : l.stackTraces = false) {pl o g r ol od : Nat} {γ : kGh} {A : kAb} {f : Nat → Int} {c9 : Int} {F9 : Nat → Int64} {D9 : Nat → UInt64} (hq : kLs9 G h pl o g r ol od γ A f c9 F9 D9) (hnx9 : f 2 < 1000000) (hsr : ∀ j : Nat, -2147483648 ≤ kScF G j ∧ kScF G j < 2147483648) {i : Nat} (hi6 : i + 6 ≤ kScL G) (hN9 : kScL G ≤ 1000000) {Φ : Option Value → kAH → Prop} {k n : Nat} (IH : ∀ (h' : kAH) (γ' : kGh) (A' : kAb) (f' : Nat → Int) (c' : Int) (F' : Nat → Int64) (D' : Nat → UInt64), kLs9 G h' pl o g r ol od γ' A' f' c' F' D' → f' 2 ≤ f 2 + 1 → kW l G m_L_law 12 Φ kNo k n 2523 [some (.ref (kScB G)), some (.ref pl), some (.ref o), some (.ref ol), some (.ref od), some (.int (iI ((i : Nat) : Int))), none, none, none] [] h') : kW l G m_L_law 12 Φ kNo (k + 40) (n + 4800) 556 [some (.ref (kScB G)), some (.ref pl), some (.ref o), some (.ref ol), some (.ref od), some (.int (iI ((i : Nat) : Int))), none, none, none] [] h := by
  have hC := hq.1
  obtain ⟨hco0, hco1, hco2⟩ : kCo f (Textend f (kScF G (i + 1)) (kScF G (i + 2)) (kScF G (i + 3))) := co_extend hC.2.2 (kScF G (i + 1)) (kScF G (i + 2)) (kScF G (i + 3))
  refine k_aload_n (pc1 := 557) dL_law_556 rfl rfl ?_
  refine k_aload_n (pc1 := 558) dL_law_557 rfl rfl ?_
  refine k_iload (pc1 := 560) dL_law_558 rfl rfl ?_
  refine k_iconst (pc1 := 561) dL_law_560 rfl ?_
  refine k_iadd (a := ((i : Nat) : Int)) (b := 1) (pc1 := 562) dL_law_561 rfl ?_
  refine k_sld (i := (((i : Nat) : Int) + 1)) (pc1 := 563) dL_law_562 rfl rfl (by omega) (by omega) hN9 (k_val (v' := .int (iI (kScF G (i + 1)))) (by rw [show ((((i : Nat) : Int) + 1)).toNat = i + 1 by omega]) ?_)
  refine k_aload_n (pc1 := 564) dL_law_563 rfl rfl ?_
  refine k_iload (pc1 := 566) dL_law_564 rfl rfl ?_
  refine k_iconst (pc1 := 567) dL_law_566 rfl ?_
  refine k_iadd (a := ((i : Nat) : Int)) (b := 2) (pc1 := 568) dL_law_567 rfl ?_
  refine k_sld (i := (((i : Nat) : Int) + 2)) (pc1 := 569) dL_law_568 rfl rfl (by omega) (by omega) hN9 (k_val (v' := .int (iI (kScF G (i + 2)))) (by rw [show ((((i : Nat) : Int) + 2)).toNat = i + 2 by omega]) ?_)
  refine k_aload_n (pc1 := 570) dL_law_569 rfl rfl ?_
  refine k_iload (pc1 := 572) dL_law_570 rfl rfl ?_
  refine k_iconst (pc1 := 573) dL_law_572 rfl ?_
  refine k_iadd (a := ((i : Nat) : Int)) (b := 3) (pc1 := 574) dL_law_573 rfl ?_
  refine k_sld (i := (((i : Nat) : Int) + 3)) (pc1 := 575) dL_law_574 rfl rfl (by omega) (by omega) hN9 (k_val (v' := .int (iI (kScF G (i + 3)))) (by rw [show ((((i : Nat) : Int) + 3)).toNat = i + 3 by omega]) ?_)
  refine k_aload_n (pc1 := 576) dL_law_575 rfl rfl ?_
  refine k_callSX dL_law_576 rfl rfl lk_RL_159 o_L_extend (as := [.ref pl, .int (iI (kScF G (i + 1))), .int (iI (kScF G (i + 2))), .int (iI (kScF G (i + 3))), .ref ol]) rfl rfl (w_L_extend hl hC (hsr _) (hsr _) (hsr _) hq.2.2.2.1 hq.2.2.1.2.2.2.1) (by decide) (by decide) (by omega) (by omega) (k8 rfl) (fun v h1 hv => ?_) (fun E h9 z => z.elim)
  obtain ⟨hv1, ⟨F1, hO1, hX1⟩, γ1, A1, hC1, hO2, hfr1⟩ := hv
  subst hv1
  refine k_st (st' := [.int (iI ((Textend f (kScF G (i + 1)) (kScF G (i + 2)) (kScF G (i + 3))).1))]) rfl ?_
  obtain ⟨hM1, ht1, hD1⟩ := l9_call hq hC1 hO1 hO2 hfr1
  refine k_istore (pc1 := 581) dL_law_579 rfl (by decide) (k_loc (L' := [some (.ref (kScB G)), some (.ref pl), some (.ref o), some (.ref ol), some (.ref od), some (.int (iI ((i : Nat) : Int))), some (.int (iI ((Textend f (kScF G (i + 1)) (kScF G (i + 2)) (kScF G (i + 3))).1))), none, none]) rfl ?_)
  refine k_aload_n (pc1 := 582) dL_law_581 rfl rfl ?_
  refine k_aload_n (pc1 := 583) dL_law_582 rfl rfl ?_
  refine k_iload (pc1 := 585) dL_law_583 rfl rfl ?_
  refine k_iconst (pc1 := 586) dL_law_585 rfl ?_
  refine k_iadd (a := ((i : Nat) : Int)) (b := 1) (pc1 := 587) dL_law_586 rfl ?_
  refine k_sld (i := (((i : Nat) : Int) + 1)) (pc1 := 588) dL_law_587 rfl rfl (by omega) (by omega) hN9 (k_val (v' := .int (iI (kScF G (i + 1)))) (by rw [show ((((i : Nat) : Int) + 1)).toNat = i + 1 by omega]) ?_)
  refine k_aload_n (pc1 := 589) dL_law_588 rfl rfl ?_
  refine k_iload (pc1 := 591) dL_law_589 rfl rfl ?_
  refine k_iconst (pc1 := 592) dL_law_591 rfl ?_
  refine k_iadd (a := ((i : Nat) : Int)) (b := 2) (pc1 := 593) dL_law_592 rfl ?_
  refine k_sld (i := (((i : Nat) : Int) + 2)) (pc1 := 594) dL_law_593 rfl rfl (by omega) (by omega) hN9 (k_val (v' := .int (iI (kScF G (i + 2)))) (by rw [show ((((i : Nat) : Int) + 2)).toNat = i + 2 by omega]) ?_)
  refine k_aload_n (pc1 := 595) dL_law_594 rfl rfl ?_
  refine k_iload (pc1 := 597) dL_law_595 rfl rfl ?_
  refine k_iconst (pc1 := 598) dL_law_597 rfl ?_
  refine k_iadd (a := ((i : Nat) : Int)) (b := 3) (pc1 := 599) dL_law_598 rfl ?_
  refine k_sld (i := (((i : Nat) : Int) + 3)) (pc1 := 600) dL_law_599 rfl rfl (by omega) (by omega) hN9 (k_val (v' := .int (iI (kScF G (i + 3)))) (by rw [show ((((i : Nat) : Int) + 3)).toNat = i + 3 by omega]) ?_)
  refine k_callV dL_law_600 rfl lk_RL_161 o_X6_extend (as := [.int (iI (kScF G (i + 1))), .int (iI (kScF G (i + 2))), .int (iI (kScF G (i + 3)))]) rfl rfl hM1.1 rfl rfl (w_X6_extend hl hM1 hC.2.2 (kScF G (i + 1)) (kScF G (i + 2)) (kScF G (i + 3)) (hsr _) (hsr _) (hsr _)) (by decide) (by decide) (Nat.zero_le _) (Nat.zero_le _) (k8 rfl) (fun v h2 hv => ?_) (fun E h9 z => z.elim)
  obtain ⟨hv1, hM2, hF2⟩ := hv
  rw [hv1]
  refine k_st (st' := [.int (iI ((Textend f (kScF G (i + 1)) (kScF G (i + 2)) (kScF G (i + 3))).2.1))]) rfl ?_
  have hst9 := l9_ref hC1 hM1 ht1 hO1 hD1 hM2 hF2
  refine k_istore (pc1 := 605) dL_law_603 rfl (by decide) (k_loc (L' := [some (.ref (kScB G)), some (.ref pl), some (.ref o), some (.ref ol), some (.ref od), some (.int (iI ((i : Nat) : Int))), some (.int (iI ((Textend f (kScF G (i + 1)) (kScF G (i + 2)) (kScF G (i + 3))).1))), some (.int (iI ((Textend f (kScF G (i + 1)) (kScF G (i + 2)) (kScF G (i + 3))).2.1))), none]) rfl ?_)
  refine k_aload_n (pc1 := 606) dL_law_605 rfl rfl ?_
  refine k_callVP dL_law_606 rfl lk_RL_142 o_X6_thrown (w_thr hl hM2) (as := []) hM2.1 rfl rfl rfl rfl (by decide) (by decide) (k8 rfl) ?_
  refine k_iload (pc1 := 611) dL_law_609 rfl rfl ?_
  refine k_icmp_eq (a := (Textend f (kScF G (i + 1)) (kScF G (i + 2)) (kScF G (i + 3))).1) (b := (Textend f (kScF G (i + 1)) (kScF G (i + 2)) (kScF G (i + 3))).1) dL_law_611 rfl (tgt := 616) rfl (by omega) (by omega) (fun _ => ?_) (fun c => absurd rfl c)
  refine k_iload (pc1 := 618) dL_law_616 rfl rfl ?_
  refine k_if_ne (a := (Textend f (kScF G (i + 1)) (kScF G (i + 2)) (kScF G (i + 3))).1) dL_law_618 rfl (tgt := 633) rfl (by omega) (fun c618 : (Textend f (kScF G (i + 1)) (kScF G (i + 2)) (kScF G (i + 3))).1 ≠ 0 => ?_) (fun c618 : (Textend f (kScF G (i + 1)) (kScF G (i + 2)) (kScF G (i + 3))).1 = 0 => ?_)
  · skip
    refine k_goto dL_law_633 (tgt := 2523) rfl ?_
    refine k_forget 6 (k_loc (L' := [some (.ref (kScB G)), some (.ref pl), some (.ref o), some (.ref ol), some (.ref od), some (.int (iI ((i : Nat) : Int))), none, some (.int (iI ((Textend f (kScF G (i + 1)) (kScF G (i + 2)) (kScF G (i + 3))).2.1))), none]) rfl ?_)
    refine k_forget 7 (k_loc (L' := [some (.ref (kScB G)), some (.ref pl), some (.ref o), some (.ref ol), some (.ref od), some (.int (iI ((i : Nat) : Int))), none, none, none]) rfl ?_)
    exact k_widen (by omega) (by omega) (IH _ _ _ _ _ _ _ hst9 hco2)
  · skip
    refine k_aload_n (pc1 := 622) dL_law_621 rfl rfl ?_
    refine k_iconst (pc1 := 623) dL_law_622 rfl ?_
    refine k_lald (i := 0) (pc1 := 624) dL_law_623 rfl hst9.2.2.2.1 (by decide) (by decide) (by decide) (k_val (v' := .long (Int32.toInt64 (iI (Textend f (kScF G (i + 1)) (kScF G (i + 2)) (kScF G (i + 3))).2.1))) (congrArg Value.long (hX1 (by omega))) ?_)
    refine k_iload (pc1 := 626) dL_law_624 rfl rfl ?_
    refine k_i2l (pc1 := 627) dL_law_626 rfl ?_
    refine k_lcmpE (pc1 := 628) dL_law_627 rfl (by first | rfl | (rw [if_pos (by omega)]; done) | (rw [if_neg (by omega)]; done) | (rw [if_pos (by omega)]; rfl) | (rw [if_neg (by omega)]; rfl)) ?_
    refine k_if_eq (a := 0) dL_law_628 rfl (tgt := 633) rfl (by decide) (fun _ => ?_) (fun c => absurd c (by decide))
    refine k_goto dL_law_633 (tgt := 2523) rfl ?_
    refine k_forget 6 (k_loc (L' := [some (.ref (kScB G)), some (.ref pl), some (.ref o), some (.ref ol), some (.ref od), some (.int (iI ((i : Nat) : Int))), none, some (.int (iI ((Textend f (kScF G (i + 1)) (kScF G (i + 2)) (kScF G (i + 3))).2.1))), none]) rfl ?_)
    refine k_forget 7 (k_loc (L' := [some (.ref (kScB G)), some (.ref pl), some (.ref o), some (.ref ol), some (.ref od), some (.int (iI ((i : Nat) : Int))), none, none, none]) rfl ?_)
    exact k_widen (by omega) (by omega) (IH _ _ _ _ _ _ _ hst9 hco2)
theorem lc_remove {l : Launch} {G : kG} {h : kAH} (hl : l.stackTraces = false) {pl o g r ol od : Nat} {γ : kGh} {A : kAb} {f : Nat → Int} {c9 : Int} {F9 : Nat → Int64} {D9 : Nat → UInt64} (hq : kLs9 G h pl o g r ol od γ A f c9 F9 D9) (hnx9 : f 2 < 1000000) (hsr : ∀ j : Nat, -2147483648 ≤ kScF G j ∧ kScF G j < 2147483648) {i : Nat} (hi6 : i + 6 ≤ kScL G) (hN9 : kScL G ≤ 1000000) {Φ : Option Value → kAH → Prop} {k n : Nat} (IH : ∀ (h' : kAH) (γ' : kGh) (A' : kAb) (f' : Nat → Int) (c' : Int) (F' : Nat → Int64) (D' : Nat → UInt64), kLs9 G h' pl o g r ol od γ' A' f' c' F' D' → f' 2 ≤ f 2 + 1 → kW l G m_L_law 12 Φ kNo k n 2523 [some (.ref (kScB G)), some (.ref pl), some (.ref o), some (.ref ol), some (.ref od), some (.int (iI ((i : Nat) : Int))), none, none, none] [] h') : kW l G m_L_law 12 Φ kNo (k + 40) (n + 4800) 636 [some (.ref (kScB G)), some (.ref pl), some (.ref o), some (.ref ol), some (.ref od), some (.int (iI ((i : Nat) : Int))), none, none, none] [] h := by
  have hC := hq.1
  obtain ⟨hco0, hco1, hco2⟩ : kCo f (Tremove f (kScF G (i + 1))) := co_remove (kScF G (i + 1))
  refine k_aload_n (pc1 := 637) dL_law_636 rfl rfl ?_
  refine k_aload_n (pc1 := 638) dL_law_637 rfl rfl ?_
  refine k_iload (pc1 := 640) dL_law_638 rfl rfl ?_
  refine k_iconst (pc1 := 641) dL_law_640 rfl ?_
  refine k_iadd (a := ((i : Nat) : Int)) (b := 1) (pc1 := 642) dL_law_641 rfl ?_
  refine k_sld (i := (((i : Nat) : Int) + 1)) (pc1 := 643) dL_law_642 rfl rfl (by omega) (by omega) hN9 (k_val (v' := .int (iI (kScF G (i + 1)))) (by rw [show ((((i : Nat) : Int) + 1)).toNat = i + 1 by omega]) ?_)
  refine k_aload_n (pc1 := 644) dL_law_643 rfl rfl ?_
  refine k_callSX dL_law_644 rfl rfl lk_RL_162 o_L_remove (as := [.ref pl, .int (iI (kScF G (i + 1))), .ref ol]) rfl rfl (w_L_remove hl hC (hsr _) hq.2.2.2.1 hq.2.2.1.2.2.2.1) (by decide) (by decide) (by omega) (by omega) (k8 rfl) (fun v h1 hv => ?_) (fun E h9 z => z.elim)
  obtain ⟨hv1, ⟨F1, hO1, hX1⟩, γ1, A1, hC1, hO2, hfr1⟩ := hv
  subst hv1
  refine k_st (st' := [.int (iI ((Tremove f (kScF G (i + 1))).1))]) rfl ?_
  obtain ⟨hM1, ht1, hD1⟩ := l9_call hq hC1 hO1 hO2 hfr1
  refine k_istore (pc1 := 649) dL_law_647 rfl (by decide) (k_loc (L' := [some (.ref (kScB G)), some (.ref pl), some (.ref o), some (.ref ol), some (.ref od), some (.int (iI ((i : Nat) : Int))), some (.int (iI ((Tremove f (kScF G (i + 1))).1))), none, none]) rfl ?_)
  refine k_aload_n (pc1 := 650) dL_law_649 rfl rfl ?_
  refine k_aload_n (pc1 := 651) dL_law_650 rfl rfl ?_
  refine k_iload (pc1 := 653) dL_law_651 rfl rfl ?_
  refine k_iconst (pc1 := 654) dL_law_653 rfl ?_
  refine k_iadd (a := ((i : Nat) : Int)) (b := 1) (pc1 := 655) dL_law_654 rfl ?_
  refine k_sld (i := (((i : Nat) : Int) + 1)) (pc1 := 656) dL_law_655 rfl rfl (by omega) (by omega) hN9 (k_val (v' := .int (iI (kScF G (i + 1)))) (by rw [show ((((i : Nat) : Int) + 1)).toNat = i + 1 by omega]) ?_)
  refine k_callV dL_law_656 rfl lk_RL_164 o_X6_remove (as := [.int (iI (kScF G (i + 1)))]) rfl rfl hM1.1 rfl rfl (w_X6_remove hl hM1 hC.2.2 (kScF G (i + 1)) (hsr _)) (by decide) (by decide) (Nat.zero_le _) (Nat.zero_le _) (k8 rfl) (fun v h2 hv => ?_) (fun E h9 z => z.elim)
  obtain ⟨hv1, hM2, hF2⟩ := hv
  rw [hv1]
  refine k_st (st' := [.int (iI ((Tremove f (kScF G (i + 1))).2.1))]) rfl ?_
  have hst9 := l9_ref hC1 hM1 ht1 hO1 hD1 hM2 hF2.w
  refine k_istore (pc1 := 661) dL_law_659 rfl (by decide) (k_loc (L' := [some (.ref (kScB G)), some (.ref pl), some (.ref o), some (.ref ol), some (.ref od), some (.int (iI ((i : Nat) : Int))), some (.int (iI ((Tremove f (kScF G (i + 1))).1))), some (.int (iI ((Tremove f (kScF G (i + 1))).2.1))), none]) rfl ?_)
  refine k_aload_n (pc1 := 662) dL_law_661 rfl rfl ?_
  refine k_callVP dL_law_662 rfl lk_RL_142 o_X6_thrown (w_thr hl hM2) (as := []) hM2.1 rfl rfl rfl rfl (by decide) (by decide) (k8 rfl) ?_
  refine k_iload (pc1 := 667) dL_law_665 rfl rfl ?_
  refine k_icmp_eq (a := (Tremove f (kScF G (i + 1))).1) (b := (Tremove f (kScF G (i + 1))).1) dL_law_667 rfl (tgt := 672) rfl (by omega) (by omega) (fun _ => ?_) (fun c => absurd rfl c)
  refine k_iload (pc1 := 674) dL_law_672 rfl rfl ?_
  refine k_if_ne (a := (Tremove f (kScF G (i + 1))).1) dL_law_674 rfl (tgt := 689) rfl (by omega) (fun c674 : (Tremove f (kScF G (i + 1))).1 ≠ 0 => ?_) (fun c674 : (Tremove f (kScF G (i + 1))).1 = 0 => ?_)
  · skip
    refine k_goto dL_law_689 (tgt := 2523) rfl ?_
    refine k_forget 6 (k_loc (L' := [some (.ref (kScB G)), some (.ref pl), some (.ref o), some (.ref ol), some (.ref od), some (.int (iI ((i : Nat) : Int))), none, some (.int (iI ((Tremove f (kScF G (i + 1))).2.1))), none]) rfl ?_)
    refine k_forget 7 (k_loc (L' := [some (.ref (kScB G)), some (.ref pl), some (.ref o), some (.ref ol), some (.ref od), some (.int (iI ((i : Nat) : Int))), none, none, none]) rfl ?_)
    exact k_widen (by omega) (by omega) (IH _ _ _ _ _ _ _ hst9 hco2)
  · skip
    refine k_aload_n (pc1 := 678) dL_law_677 rfl rfl ?_
    refine k_iconst (pc1 := 679) dL_law_678 rfl ?_
    refine k_lald (i := 0) (pc1 := 680) dL_law_679 rfl hst9.2.2.2.1 (by decide) (by decide) (by decide) (k_val (v' := .long (Int32.toInt64 (iI (Tremove f (kScF G (i + 1))).2.1))) (congrArg Value.long (hX1 (by omega))) ?_)
    refine k_iload (pc1 := 682) dL_law_680 rfl rfl ?_
    refine k_i2l (pc1 := 683) dL_law_682 rfl ?_
    refine k_lcmpE (pc1 := 684) dL_law_683 rfl (by first | rfl | (rw [if_pos (by omega)]; done) | (rw [if_neg (by omega)]; done) | (rw [if_pos (by omega)]; rfl) | (rw [if_neg (by omega)]; rfl)) ?_
    refine k_if_eq (a := 0) dL_law_684 rfl (tgt := 689) rfl (by decide) (fun _ => ?_) (fun c => absurd c (by decide))
    refine k_goto dL_law_689 (tgt := 2523) rfl ?_
    refine k_forget 6 (k_loc (L' := [some (.ref (kScB G)), some (.ref pl), some (.ref o), some (.ref ol), some (.ref od), some (.int (iI ((i : Nat) : Int))), none, some (.int (iI ((Tremove f (kScF G (i + 1))).2.1))), none]) rfl ?_)
    refine k_forget 7 (k_loc (L' := [some (.ref (kScB G)), some (.ref pl), some (.ref o), some (.ref ol), some (.ref od), some (.int (iI ((i : Nat) : Int))), none, none, none]) rfl ?_)
    exact k_widen (by omega) (by omega) (IH _ _ _ _ _ _ _ hst9 hco2)
theorem lc_answer {l : Launch} {G : kG} {h : kAH} (hl : l.stackTraces = false) {pl o g r ol od : Nat} {γ : kGh} {A : kAb} {f : Nat → Int} {c9 : Int} {F9 : Nat → Int64} {D9 : Nat → UInt64} (hq : kLs9 G h pl o g r ol od γ A f c9 F9 D9) (hnx9 : f 2 < 1000000) (hsr : ∀ j : Nat, -2147483648 ≤ kScF G j ∧ kScF G j < 2147483648) {i : Nat} (hi6 : i + 6 ≤ kScL G) (hN9 : kScL G ≤ 1000000) {Φ : Option Value → kAH → Prop} {k n : Nat} (IH : ∀ (h' : kAH) (γ' : kGh) (A' : kAb) (f' : Nat → Int) (c' : Int) (F' : Nat → Int64) (D' : Nat → UInt64), kLs9 G h' pl o g r ol od γ' A' f' c' F' D' → f' 2 ≤ f 2 + 1 → kW l G m_L_law 12 Φ kNo k n 2523 [some (.ref (kScB G)), some (.ref pl), some (.ref o), some (.ref ol), some (.ref od), some (.int (iI ((i : Nat) : Int))), none, none, none] [] h') : kW l G m_L_law 12 Φ kNo (k + 40) (n + 4800) 692 [some (.ref (kScB G)), some (.ref pl), some (.ref o), some (.ref ol), some (.ref od), some (.int (iI ((i : Nat) : Int))), none, none, none] [] h := by
  have hC := hq.1
  obtain ⟨z3, hz0, hz1, hz2⟩ := i2c_ex (iI (kScF G (i + 3)))
  obtain ⟨hco0, hco1, hco2⟩ : kCo f (Tanswer f (kScF G (i + 1)) (kScF G (i + 2)) z3) := co_answer (kScF G (i + 1)) (kScF G (i + 2)) z3
  refine k_aload_n (pc1 := 693) dL_law_692 rfl rfl ?_
  refine k_aload_n (pc1 := 694) dL_law_693 rfl rfl ?_
  refine k_iload (pc1 := 696) dL_law_694 rfl rfl ?_
  refine k_iconst (pc1 := 697) dL_law_696 rfl ?_
  refine k_iadd (a := ((i : Nat) : Int)) (b := 1) (pc1 := 698) dL_law_697 rfl ?_
  refine k_sld (i := (((i : Nat) : Int) + 1)) (pc1 := 699) dL_law_698 rfl rfl (by omega) (by omega) hN9 (k_val (v' := .int (iI (kScF G (i + 1)))) (by rw [show ((((i : Nat) : Int) + 1)).toNat = i + 1 by omega]) ?_)
  refine k_aload_n (pc1 := 700) dL_law_699 rfl rfl ?_
  refine k_iload (pc1 := 702) dL_law_700 rfl rfl ?_
  refine k_iconst (pc1 := 703) dL_law_702 rfl ?_
  refine k_iadd (a := ((i : Nat) : Int)) (b := 2) (pc1 := 704) dL_law_703 rfl ?_
  refine k_sld (i := (((i : Nat) : Int) + 2)) (pc1 := 705) dL_law_704 rfl rfl (by omega) (by omega) hN9 (k_val (v' := .int (iI (kScF G (i + 2)))) (by rw [show ((((i : Nat) : Int) + 2)).toNat = i + 2 by omega]) ?_)
  refine k_aload_n (pc1 := 706) dL_law_705 rfl rfl ?_
  refine k_iload (pc1 := 708) dL_law_706 rfl rfl ?_
  refine k_iconst (pc1 := 709) dL_law_708 rfl ?_
  refine k_iadd (a := ((i : Nat) : Int)) (b := 3) (pc1 := 710) dL_law_709 rfl ?_
  refine k_sld (i := (((i : Nat) : Int) + 3)) (pc1 := 711) dL_law_710 rfl rfl (by omega) (by omega) hN9 (k_val (v' := .int (iI (kScF G (i + 3)))) (by rw [show ((((i : Nat) : Int) + 3)).toNat = i + 3 by omega]) ?_)
  refine k_i2c (pc1 := 712) dL_law_711 rfl (k_val (v' := .int (iI z3)) (congrArg Value.int hz2) ?_)
  refine k_aload_n (pc1 := 713) dL_law_712 rfl rfl ?_
  refine k_callSX dL_law_713 rfl rfl lk_RL_165 o_L_answer (as := [.ref pl, .int (iI (kScF G (i + 1))), .int (iI (kScF G (i + 2))), .int (iI z3), .ref ol]) rfl rfl (w_L_answer hl hC (hsr _) (hsr _) ⟨hz0, hz1⟩ hq.2.2.2.1 hq.2.2.1.2.2.2.1) (by decide) (by decide) (by omega) (by omega) (k8 rfl) (fun v h1 hv => ?_) (fun E h9 z => z.elim)
  obtain ⟨hv1, ⟨F1, hO1, hX1⟩, γ1, A1, hC1, hO2, hfr1⟩ := hv
  subst hv1
  refine k_st (st' := [.int (iI ((Tanswer f (kScF G (i + 1)) (kScF G (i + 2)) z3).1))]) rfl ?_
  obtain ⟨hM1, ht1, hD1⟩ := l9_call hq hC1 hO1 hO2 hfr1
  refine k_istore (pc1 := 718) dL_law_716 rfl (by decide) (k_loc (L' := [some (.ref (kScB G)), some (.ref pl), some (.ref o), some (.ref ol), some (.ref od), some (.int (iI ((i : Nat) : Int))), some (.int (iI ((Tanswer f (kScF G (i + 1)) (kScF G (i + 2)) z3).1))), none, none]) rfl ?_)
  refine k_aload_n (pc1 := 719) dL_law_718 rfl rfl ?_
  refine k_aload_n (pc1 := 720) dL_law_719 rfl rfl ?_
  refine k_iload (pc1 := 722) dL_law_720 rfl rfl ?_
  refine k_iconst (pc1 := 723) dL_law_722 rfl ?_
  refine k_iadd (a := ((i : Nat) : Int)) (b := 1) (pc1 := 724) dL_law_723 rfl ?_
  refine k_sld (i := (((i : Nat) : Int) + 1)) (pc1 := 725) dL_law_724 rfl rfl (by omega) (by omega) hN9 (k_val (v' := .int (iI (kScF G (i + 1)))) (by rw [show ((((i : Nat) : Int) + 1)).toNat = i + 1 by omega]) ?_)
  refine k_aload_n (pc1 := 726) dL_law_725 rfl rfl ?_
  refine k_iload (pc1 := 728) dL_law_726 rfl rfl ?_
  refine k_iconst (pc1 := 729) dL_law_728 rfl ?_
  refine k_iadd (a := ((i : Nat) : Int)) (b := 2) (pc1 := 730) dL_law_729 rfl ?_
  refine k_sld (i := (((i : Nat) : Int) + 2)) (pc1 := 731) dL_law_730 rfl rfl (by omega) (by omega) hN9 (k_val (v' := .int (iI (kScF G (i + 2)))) (by rw [show ((((i : Nat) : Int) + 2)).toNat = i + 2 by omega]) ?_)
  refine k_aload_n (pc1 := 732) dL_law_731 rfl rfl ?_
  refine k_iload (pc1 := 734) dL_law_732 rfl rfl ?_
  refine k_iconst (pc1 := 735) dL_law_734 rfl ?_
  refine k_iadd (a := ((i : Nat) : Int)) (b := 3) (pc1 := 736) dL_law_735 rfl ?_
  refine k_sld (i := (((i : Nat) : Int) + 3)) (pc1 := 737) dL_law_736 rfl rfl (by omega) (by omega) hN9 (k_val (v' := .int (iI (kScF G (i + 3)))) (by rw [show ((((i : Nat) : Int) + 3)).toNat = i + 3 by omega]) ?_)
  refine k_i2c (pc1 := 738) dL_law_737 rfl (k_val (v' := .int (iI z3)) (congrArg Value.int hz2) ?_)
  refine k_callV dL_law_738 rfl lk_RL_168 o_X6_answer (as := [.int (iI (kScF G (i + 1))), .int (iI (kScF G (i + 2))), .int (iI z3)]) rfl rfl hM1.1 rfl rfl (w_X6_answer hl hM1 hC.2.2 (kScF G (i + 1)) (kScF G (i + 2)) z3 (hsr _) (hsr _) ⟨hz0, hz1⟩) (by decide) (by decide) (Nat.zero_le _) (Nat.zero_le _) (k8 rfl) (fun v h2 hv => ?_) (fun E h9 z => z.elim)
  obtain ⟨hv1, hM2, hF2⟩ := hv
  rw [hv1]
  refine k_st (st' := [.int (iI ((Tanswer f (kScF G (i + 1)) (kScF G (i + 2)) z3).2.1))]) rfl ?_
  have hst9 := l9_ref hC1 hM1 ht1 hO1 hD1 hM2 hF2.w
  refine k_istore (pc1 := 743) dL_law_741 rfl (by decide) (k_loc (L' := [some (.ref (kScB G)), some (.ref pl), some (.ref o), some (.ref ol), some (.ref od), some (.int (iI ((i : Nat) : Int))), some (.int (iI ((Tanswer f (kScF G (i + 1)) (kScF G (i + 2)) z3).1))), some (.int (iI ((Tanswer f (kScF G (i + 1)) (kScF G (i + 2)) z3).2.1))), none]) rfl ?_)
  refine k_aload_n (pc1 := 744) dL_law_743 rfl rfl ?_
  refine k_callVP dL_law_744 rfl lk_RL_142 o_X6_thrown (w_thr hl hM2) (as := []) hM2.1 rfl rfl rfl rfl (by decide) (by decide) (k8 rfl) ?_
  refine k_iload (pc1 := 749) dL_law_747 rfl rfl ?_
  refine k_icmp_eq (a := (Tanswer f (kScF G (i + 1)) (kScF G (i + 2)) z3).1) (b := (Tanswer f (kScF G (i + 1)) (kScF G (i + 2)) z3).1) dL_law_749 rfl (tgt := 754) rfl (by omega) (by omega) (fun _ => ?_) (fun c => absurd rfl c)
  refine k_iload (pc1 := 756) dL_law_754 rfl rfl ?_
  refine k_if_ne (a := (Tanswer f (kScF G (i + 1)) (kScF G (i + 2)) z3).1) dL_law_756 rfl (tgt := 771) rfl (by omega) (fun c756 : (Tanswer f (kScF G (i + 1)) (kScF G (i + 2)) z3).1 ≠ 0 => ?_) (fun c756 : (Tanswer f (kScF G (i + 1)) (kScF G (i + 2)) z3).1 = 0 => ?_)
  · skip
    refine k_goto dL_law_771 (tgt := 2523) rfl ?_
    refine k_forget 6 (k_loc (L' := [some (.ref (kScB G)), some (.ref pl), some (.ref o), some (.ref ol), some (.ref od), some (.int (iI ((i : Nat) : Int))), none, some (.int (iI ((Tanswer f (kScF G (i + 1)) (kScF G (i + 2)) z3).2.1))), none]) rfl ?_)
    refine k_forget 7 (k_loc (L' := [some (.ref (kScB G)), some (.ref pl), some (.ref o), some (.ref ol), some (.ref od), some (.int (iI ((i : Nat) : Int))), none, none, none]) rfl ?_)
    exact k_widen (by omega) (by omega) (IH _ _ _ _ _ _ _ hst9 hco2)
  · skip
    refine k_aload_n (pc1 := 760) dL_law_759 rfl rfl ?_
    refine k_iconst (pc1 := 761) dL_law_760 rfl ?_
    refine k_lald (i := 0) (pc1 := 762) dL_law_761 rfl hst9.2.2.2.1 (by decide) (by decide) (by decide) (k_val (v' := .long (Int32.toInt64 (iI (Tanswer f (kScF G (i + 1)) (kScF G (i + 2)) z3).2.1))) (congrArg Value.long (hX1 (by omega))) ?_)
    refine k_iload (pc1 := 764) dL_law_762 rfl rfl ?_
    refine k_i2l (pc1 := 765) dL_law_764 rfl ?_
    refine k_lcmpE (pc1 := 766) dL_law_765 rfl (by first | rfl | (rw [if_pos (by omega)]; done) | (rw [if_neg (by omega)]; done) | (rw [if_pos (by omega)]; rfl) | (rw [if_neg (by omega)]; rfl)) ?_
    refine k_if_eq (a := 0) dL_law_766 rfl (tgt := 771) rfl (by decide) (fun _ => ?_) (fun c => absurd c (by decide))
    refine k_goto dL_law_771 (tgt := 2523) rfl ?_
    refine k_forget 6 (k_loc (L' := [some (.ref (kScB G)), some (.ref pl), some (.ref o), some (.ref ol), some (.ref od), some (.int (iI ((i : Nat) : Int))), none, some (.int (iI ((Tanswer f (kScF G (i + 1)) (kScF G (i + 2)) z3).2.1))), none]) rfl ?_)
    refine k_forget 7 (k_loc (L' := [some (.ref (kScB G)), some (.ref pl), some (.ref o), some (.ref ol), some (.ref od), some (.int (iI ((i : Nat) : Int))), none, none, none]) rfl ?_)
    exact k_widen (by omega) (by omega) (IH _ _ _ _ _ _ _ hst9 hco2)
theorem lc_cancel {l : Launch} {G : kG} {h : kAH} (hl : l.stackTraces = false) {pl o g r ol od : Nat} {γ : kGh} {A : kAb} {f : Nat → Int} {c9 : Int} {F9 : Nat → Int64} {D9 : Nat → UInt64} (hq : kLs9 G h pl o g r ol od γ A f c9 F9 D9) (hnx9 : f 2 < 1000000) (hsr : ∀ j : Nat, -2147483648 ≤ kScF G j ∧ kScF G j < 2147483648) {i : Nat} (hi6 : i + 6 ≤ kScL G) (hN9 : kScL G ≤ 1000000) {Φ : Option Value → kAH → Prop} {k n : Nat} (IH : ∀ (h' : kAH) (γ' : kGh) (A' : kAb) (f' : Nat → Int) (c' : Int) (F' : Nat → Int64) (D' : Nat → UInt64), kLs9 G h' pl o g r ol od γ' A' f' c' F' D' → f' 2 ≤ f 2 + 1 → kW l G m_L_law 12 Φ kNo k n 2523 [some (.ref (kScB G)), some (.ref pl), some (.ref o), some (.ref ol), some (.ref od), some (.int (iI ((i : Nat) : Int))), none, none, none] [] h') : kW l G m_L_law 12 Φ kNo (k + 40) (n + 4800) 774 [some (.ref (kScB G)), some (.ref pl), some (.ref o), some (.ref ol), some (.ref od), some (.int (iI ((i : Nat) : Int))), none, none, none] [] h := by
  have hC := hq.1
  obtain ⟨hco0, hco1, hco2⟩ : kCo f (Tcancel f (kScF G (i + 1)) (kScF G (i + 2))) := co_cancel (kScF G (i + 1)) (kScF G (i + 2))
  refine k_aload_n (pc1 := 775) dL_law_774 rfl rfl ?_
  refine k_aload_n (pc1 := 776) dL_law_775 rfl rfl ?_
  refine k_iload (pc1 := 778) dL_law_776 rfl rfl ?_
  refine k_iconst (pc1 := 779) dL_law_778 rfl ?_
  refine k_iadd (a := ((i : Nat) : Int)) (b := 1) (pc1 := 780) dL_law_779 rfl ?_
  refine k_sld (i := (((i : Nat) : Int) + 1)) (pc1 := 781) dL_law_780 rfl rfl (by omega) (by omega) hN9 (k_val (v' := .int (iI (kScF G (i + 1)))) (by rw [show ((((i : Nat) : Int) + 1)).toNat = i + 1 by omega]) ?_)
  refine k_aload_n (pc1 := 782) dL_law_781 rfl rfl ?_
  refine k_iload (pc1 := 784) dL_law_782 rfl rfl ?_
  refine k_iconst (pc1 := 785) dL_law_784 rfl ?_
  refine k_iadd (a := ((i : Nat) : Int)) (b := 2) (pc1 := 786) dL_law_785 rfl ?_
  refine k_sld (i := (((i : Nat) : Int) + 2)) (pc1 := 787) dL_law_786 rfl rfl (by omega) (by omega) hN9 (k_val (v' := .int (iI (kScF G (i + 2)))) (by rw [show ((((i : Nat) : Int) + 2)).toNat = i + 2 by omega]) ?_)
  refine k_aload_n (pc1 := 788) dL_law_787 rfl rfl ?_
  refine k_callSX dL_law_788 rfl rfl lk_RL_169 o_L_cancel (as := [.ref pl, .int (iI (kScF G (i + 1))), .int (iI (kScF G (i + 2))), .ref ol]) rfl rfl (w_L_cancel hl hC (hsr _) (hsr _) hq.2.2.2.1 hq.2.2.1.2.2.2.1) (by decide) (by decide) (by omega) (by omega) (k8 rfl) (fun v h1 hv => ?_) (fun E h9 z => z.elim)
  obtain ⟨hv1, ⟨F1, hO1, hX1⟩, γ1, A1, hC1, hO2, hfr1⟩ := hv
  subst hv1
  refine k_st (st' := [.int (iI ((Tcancel f (kScF G (i + 1)) (kScF G (i + 2))).1))]) rfl ?_
  obtain ⟨hM1, ht1, hD1⟩ := l9_call hq hC1 hO1 hO2 hfr1
  refine k_istore (pc1 := 793) dL_law_791 rfl (by decide) (k_loc (L' := [some (.ref (kScB G)), some (.ref pl), some (.ref o), some (.ref ol), some (.ref od), some (.int (iI ((i : Nat) : Int))), some (.int (iI ((Tcancel f (kScF G (i + 1)) (kScF G (i + 2))).1))), none, none]) rfl ?_)
  refine k_aload_n (pc1 := 794) dL_law_793 rfl rfl ?_
  refine k_aload_n (pc1 := 795) dL_law_794 rfl rfl ?_
  refine k_iload (pc1 := 797) dL_law_795 rfl rfl ?_
  refine k_iconst (pc1 := 798) dL_law_797 rfl ?_
  refine k_iadd (a := ((i : Nat) : Int)) (b := 1) (pc1 := 799) dL_law_798 rfl ?_
  refine k_sld (i := (((i : Nat) : Int) + 1)) (pc1 := 800) dL_law_799 rfl rfl (by omega) (by omega) hN9 (k_val (v' := .int (iI (kScF G (i + 1)))) (by rw [show ((((i : Nat) : Int) + 1)).toNat = i + 1 by omega]) ?_)
  refine k_aload_n (pc1 := 801) dL_law_800 rfl rfl ?_
  refine k_iload (pc1 := 803) dL_law_801 rfl rfl ?_
  refine k_iconst (pc1 := 804) dL_law_803 rfl ?_
  refine k_iadd (a := ((i : Nat) : Int)) (b := 2) (pc1 := 805) dL_law_804 rfl ?_
  refine k_sld (i := (((i : Nat) : Int) + 2)) (pc1 := 806) dL_law_805 rfl rfl (by omega) (by omega) hN9 (k_val (v' := .int (iI (kScF G (i + 2)))) (by rw [show ((((i : Nat) : Int) + 2)).toNat = i + 2 by omega]) ?_)
  refine k_callV dL_law_806 rfl lk_RL_172 o_X6_cancel (as := [.int (iI (kScF G (i + 1))), .int (iI (kScF G (i + 2)))]) rfl rfl hM1.1 rfl rfl (w_X6_cancel hl hM1 hC.2.2 (kScF G (i + 1)) (kScF G (i + 2)) (hsr _) (hsr _)) (by decide) (by decide) (Nat.zero_le _) (Nat.zero_le _) (k8 rfl) (fun v h2 hv => ?_) (fun E h9 z => z.elim)
  obtain ⟨hv1, hM2, hF2⟩ := hv
  rw [hv1]
  refine k_st (st' := [.int (iI ((Tcancel f (kScF G (i + 1)) (kScF G (i + 2))).2.1))]) rfl ?_
  have hst9 := l9_ref hC1 hM1 ht1 hO1 hD1 hM2 hF2.w
  refine k_istore (pc1 := 811) dL_law_809 rfl (by decide) (k_loc (L' := [some (.ref (kScB G)), some (.ref pl), some (.ref o), some (.ref ol), some (.ref od), some (.int (iI ((i : Nat) : Int))), some (.int (iI ((Tcancel f (kScF G (i + 1)) (kScF G (i + 2))).1))), some (.int (iI ((Tcancel f (kScF G (i + 1)) (kScF G (i + 2))).2.1))), none]) rfl ?_)
  refine k_aload_n (pc1 := 812) dL_law_811 rfl rfl ?_
  refine k_callVP dL_law_812 rfl lk_RL_142 o_X6_thrown (w_thr hl hM2) (as := []) hM2.1 rfl rfl rfl rfl (by decide) (by decide) (k8 rfl) ?_
  refine k_iload (pc1 := 817) dL_law_815 rfl rfl ?_
  refine k_icmp_eq (a := (Tcancel f (kScF G (i + 1)) (kScF G (i + 2))).1) (b := (Tcancel f (kScF G (i + 1)) (kScF G (i + 2))).1) dL_law_817 rfl (tgt := 822) rfl (by omega) (by omega) (fun _ => ?_) (fun c => absurd rfl c)
  refine k_iload (pc1 := 824) dL_law_822 rfl rfl ?_
  refine k_if_ne (a := (Tcancel f (kScF G (i + 1)) (kScF G (i + 2))).1) dL_law_824 rfl (tgt := 839) rfl (by omega) (fun c824 : (Tcancel f (kScF G (i + 1)) (kScF G (i + 2))).1 ≠ 0 => ?_) (fun c824 : (Tcancel f (kScF G (i + 1)) (kScF G (i + 2))).1 = 0 => ?_)
  · skip
    refine k_goto dL_law_839 (tgt := 2523) rfl ?_
    refine k_forget 6 (k_loc (L' := [some (.ref (kScB G)), some (.ref pl), some (.ref o), some (.ref ol), some (.ref od), some (.int (iI ((i : Nat) : Int))), none, some (.int (iI ((Tcancel f (kScF G (i + 1)) (kScF G (i + 2))).2.1))), none]) rfl ?_)
    refine k_forget 7 (k_loc (L' := [some (.ref (kScB G)), some (.ref pl), some (.ref o), some (.ref ol), some (.ref od), some (.int (iI ((i : Nat) : Int))), none, none, none]) rfl ?_)
    exact k_widen (by omega) (by omega) (IH _ _ _ _ _ _ _ hst9 hco2)
  · skip
    refine k_aload_n (pc1 := 828) dL_law_827 rfl rfl ?_
    refine k_iconst (pc1 := 829) dL_law_828 rfl ?_
    refine k_lald (i := 0) (pc1 := 830) dL_law_829 rfl hst9.2.2.2.1 (by decide) (by decide) (by decide) (k_val (v' := .long (Int32.toInt64 (iI (Tcancel f (kScF G (i + 1)) (kScF G (i + 2))).2.1))) (congrArg Value.long (hX1 (by omega))) ?_)
    refine k_iload (pc1 := 832) dL_law_830 rfl rfl ?_
    refine k_i2l (pc1 := 833) dL_law_832 rfl ?_
    refine k_lcmpE (pc1 := 834) dL_law_833 rfl (by first | rfl | (rw [if_pos (by omega)]; done) | (rw [if_neg (by omega)]; done) | (rw [if_pos (by omega)]; rfl) | (rw [if_neg (by omega)]; rfl)) ?_
    refine k_if_eq (a := 0) dL_law_834 rfl (tgt := 839) rfl (by decide) (fun _ => ?_) (fun c => absurd c (by decide))
    refine k_goto dL_law_839 (tgt := 2523) rfl ?_
    refine k_forget 6 (k_loc (L' := [some (.ref (kScB G)), some (.ref pl), some (.ref o), some (.ref ol), some (.ref od), some (.int (iI ((i : Nat) : Int))), none, some (.int (iI ((Tcancel f (kScF G (i + 1)) (kScF G (i + 2))).2.1))), none]) rfl ?_)
    refine k_forget 7 (k_loc (L' := [some (.ref (kScB G)), some (.ref pl), some (.ref o), some (.ref ol), some (.ref od), some (.int (iI ((i : Nat) : Int))), none, none, none]) rfl ?_)
    exact k_widen (by omega) (by omega) (IH _ _ _ _ _ _ _ hst9 hco2)
theorem lc_move {l : Launch} {G : kG} {h : kAH} (hl : l.stackTraces = false) {pl o g r ol od : Nat} {γ : kGh} {A : kAb} {f : Nat → Int} {c9 : Int} {F9 : Nat → Int64} {D9 : Nat → UInt64} (hq : kLs9 G h pl o g r ol od γ A f c9 F9 D9) (hnx9 : f 2 < 1000000) (hsr : ∀ j : Nat, -2147483648 ≤ kScF G j ∧ kScF G j < 2147483648) {i : Nat} (hi6 : i + 6 ≤ kScL G) (hN9 : kScL G ≤ 1000000) {Φ : Option Value → kAH → Prop} {k n : Nat} (IH : ∀ (h' : kAH) (γ' : kGh) (A' : kAb) (f' : Nat → Int) (c' : Int) (F' : Nat → Int64) (D' : Nat → UInt64), kLs9 G h' pl o g r ol od γ' A' f' c' F' D' → f' 2 ≤ f 2 + 1 → kW l G m_L_law 12 Φ kNo k n 2523 [some (.ref (kScB G)), some (.ref pl), some (.ref o), some (.ref ol), some (.ref od), some (.int (iI ((i : Nat) : Int))), none, none, none] [] h') : kW l G m_L_law 12 Φ kNo (k + 40) (n + 4800) 842 [some (.ref (kScB G)), some (.ref pl), some (.ref o), some (.ref ol), some (.ref od), some (.int (iI ((i : Nat) : Int))), none, none, none] [] h := by
  have hC := hq.1
  obtain ⟨hco0, hco1, hco2⟩ : kCo f (Tmove f (kScF G (i + 1)) (kScF G (i + 2)) (kScF G (i + 3)) (kScF G (i + 4))) := co_move (kScF G (i + 1)) (kScF G (i + 2)) (kScF G (i + 3)) (kScF G (i + 4))
  refine k_aload_n (pc1 := 843) dL_law_842 rfl rfl ?_
  refine k_aload_n (pc1 := 844) dL_law_843 rfl rfl ?_
  refine k_iload (pc1 := 846) dL_law_844 rfl rfl ?_
  refine k_iconst (pc1 := 847) dL_law_846 rfl ?_
  refine k_iadd (a := ((i : Nat) : Int)) (b := 1) (pc1 := 848) dL_law_847 rfl ?_
  refine k_sld (i := (((i : Nat) : Int) + 1)) (pc1 := 849) dL_law_848 rfl rfl (by omega) (by omega) hN9 (k_val (v' := .int (iI (kScF G (i + 1)))) (by rw [show ((((i : Nat) : Int) + 1)).toNat = i + 1 by omega]) ?_)
  refine k_aload_n (pc1 := 850) dL_law_849 rfl rfl ?_
  refine k_iload (pc1 := 852) dL_law_850 rfl rfl ?_
  refine k_iconst (pc1 := 853) dL_law_852 rfl ?_
  refine k_iadd (a := ((i : Nat) : Int)) (b := 2) (pc1 := 854) dL_law_853 rfl ?_
  refine k_sld (i := (((i : Nat) : Int) + 2)) (pc1 := 855) dL_law_854 rfl rfl (by omega) (by omega) hN9 (k_val (v' := .int (iI (kScF G (i + 2)))) (by rw [show ((((i : Nat) : Int) + 2)).toNat = i + 2 by omega]) ?_)
  refine k_aload_n (pc1 := 856) dL_law_855 rfl rfl ?_
  refine k_iload (pc1 := 858) dL_law_856 rfl rfl ?_
  refine k_iconst (pc1 := 859) dL_law_858 rfl ?_
  refine k_iadd (a := ((i : Nat) : Int)) (b := 3) (pc1 := 860) dL_law_859 rfl ?_
  refine k_sld (i := (((i : Nat) : Int) + 3)) (pc1 := 861) dL_law_860 rfl rfl (by omega) (by omega) hN9 (k_val (v' := .int (iI (kScF G (i + 3)))) (by rw [show ((((i : Nat) : Int) + 3)).toNat = i + 3 by omega]) ?_)
  refine k_aload_n (pc1 := 862) dL_law_861 rfl rfl ?_
  refine k_iload (pc1 := 864) dL_law_862 rfl rfl ?_
  refine k_iconst (pc1 := 865) dL_law_864 rfl ?_
  refine k_iadd (a := ((i : Nat) : Int)) (b := 4) (pc1 := 866) dL_law_865 rfl ?_
  refine k_sld (i := (((i : Nat) : Int) + 4)) (pc1 := 867) dL_law_866 rfl rfl (by omega) (by omega) hN9 (k_val (v' := .int (iI (kScF G (i + 4)))) (by rw [show ((((i : Nat) : Int) + 4)).toNat = i + 4 by omega]) ?_)
  refine k_aload_n (pc1 := 868) dL_law_867 rfl rfl ?_
  refine k_callSX dL_law_868 rfl rfl lk_RL_173 o_L_move (as := [.ref pl, .int (iI (kScF G (i + 1))), .int (iI (kScF G (i + 2))), .int (iI (kScF G (i + 3))), .int (iI (kScF G (i + 4))), .ref ol]) rfl rfl (w_L_move hl hC (hsr _) (hsr _) (hsr _) (hsr _) hq.2.2.2.1 hq.2.2.1.2.2.2.1) (by decide) (by decide) (by omega) (by omega) (k8 rfl) (fun v h1 hv => ?_) (fun E h9 z => z.elim)
  obtain ⟨hv1, ⟨F1, hO1, hX1⟩, γ1, A1, hC1, hO2, hfr1⟩ := hv
  subst hv1
  refine k_st (st' := [.int (iI ((Tmove f (kScF G (i + 1)) (kScF G (i + 2)) (kScF G (i + 3)) (kScF G (i + 4))).1))]) rfl ?_
  obtain ⟨hM1, ht1, hD1⟩ := l9_call hq hC1 hO1 hO2 hfr1
  refine k_istore (pc1 := 873) dL_law_871 rfl (by decide) (k_loc (L' := [some (.ref (kScB G)), some (.ref pl), some (.ref o), some (.ref ol), some (.ref od), some (.int (iI ((i : Nat) : Int))), some (.int (iI ((Tmove f (kScF G (i + 1)) (kScF G (i + 2)) (kScF G (i + 3)) (kScF G (i + 4))).1))), none, none]) rfl ?_)
  refine k_aload_n (pc1 := 874) dL_law_873 rfl rfl ?_
  refine k_aload_n (pc1 := 875) dL_law_874 rfl rfl ?_
  refine k_iload (pc1 := 877) dL_law_875 rfl rfl ?_
  refine k_iconst (pc1 := 878) dL_law_877 rfl ?_
  refine k_iadd (a := ((i : Nat) : Int)) (b := 1) (pc1 := 879) dL_law_878 rfl ?_
  refine k_sld (i := (((i : Nat) : Int) + 1)) (pc1 := 880) dL_law_879 rfl rfl (by omega) (by omega) hN9 (k_val (v' := .int (iI (kScF G (i + 1)))) (by rw [show ((((i : Nat) : Int) + 1)).toNat = i + 1 by omega]) ?_)
  refine k_aload_n (pc1 := 881) dL_law_880 rfl rfl ?_
  refine k_iload (pc1 := 883) dL_law_881 rfl rfl ?_
  refine k_iconst (pc1 := 884) dL_law_883 rfl ?_
  refine k_iadd (a := ((i : Nat) : Int)) (b := 2) (pc1 := 885) dL_law_884 rfl ?_
  refine k_sld (i := (((i : Nat) : Int) + 2)) (pc1 := 886) dL_law_885 rfl rfl (by omega) (by omega) hN9 (k_val (v' := .int (iI (kScF G (i + 2)))) (by rw [show ((((i : Nat) : Int) + 2)).toNat = i + 2 by omega]) ?_)
  refine k_aload_n (pc1 := 887) dL_law_886 rfl rfl ?_
  refine k_iload (pc1 := 889) dL_law_887 rfl rfl ?_
  refine k_iconst (pc1 := 890) dL_law_889 rfl ?_
  refine k_iadd (a := ((i : Nat) : Int)) (b := 3) (pc1 := 891) dL_law_890 rfl ?_
  refine k_sld (i := (((i : Nat) : Int) + 3)) (pc1 := 892) dL_law_891 rfl rfl (by omega) (by omega) hN9 (k_val (v' := .int (iI (kScF G (i + 3)))) (by rw [show ((((i : Nat) : Int) + 3)).toNat = i + 3 by omega]) ?_)
  refine k_aload_n (pc1 := 893) dL_law_892 rfl rfl ?_
  refine k_iload (pc1 := 895) dL_law_893 rfl rfl ?_
  refine k_iconst (pc1 := 896) dL_law_895 rfl ?_
  refine k_iadd (a := ((i : Nat) : Int)) (b := 4) (pc1 := 897) dL_law_896 rfl ?_
  refine k_sld (i := (((i : Nat) : Int) + 4)) (pc1 := 898) dL_law_897 rfl rfl (by omega) (by omega) hN9 (k_val (v' := .int (iI (kScF G (i + 4)))) (by rw [show ((((i : Nat) : Int) + 4)).toNat = i + 4 by omega]) ?_)
  refine k_callV dL_law_898 rfl lk_RL_176 o_X6_move (as := [.int (iI (kScF G (i + 1))), .int (iI (kScF G (i + 2))), .int (iI (kScF G (i + 3))), .int (iI (kScF G (i + 4)))]) rfl rfl hM1.1 rfl rfl (w_X6_move hl hM1 hC.2.2 (kScF G (i + 1)) (kScF G (i + 2)) (kScF G (i + 3)) (kScF G (i + 4)) (hsr _) (hsr _) (hsr _) (hsr _)) (by decide) (by decide) (Nat.zero_le _) (Nat.zero_le _) (k8 rfl) (fun v h2 hv => ?_) (fun E h9 z => z.elim)
  obtain ⟨hv1, hM2, hF2⟩ := hv
  rw [hv1]
  refine k_st (st' := [.int (iI ((Tmove f (kScF G (i + 1)) (kScF G (i + 2)) (kScF G (i + 3)) (kScF G (i + 4))).2.1))]) rfl ?_
  have hst9 := l9_ref hC1 hM1 ht1 hO1 hD1 hM2 hF2.w
  refine k_istore (pc1 := 903) dL_law_901 rfl (by decide) (k_loc (L' := [some (.ref (kScB G)), some (.ref pl), some (.ref o), some (.ref ol), some (.ref od), some (.int (iI ((i : Nat) : Int))), some (.int (iI ((Tmove f (kScF G (i + 1)) (kScF G (i + 2)) (kScF G (i + 3)) (kScF G (i + 4))).1))), some (.int (iI ((Tmove f (kScF G (i + 1)) (kScF G (i + 2)) (kScF G (i + 3)) (kScF G (i + 4))).2.1))), none]) rfl ?_)
  refine k_aload_n (pc1 := 904) dL_law_903 rfl rfl ?_
  refine k_callVP dL_law_904 rfl lk_RL_142 o_X6_thrown (w_thr hl hM2) (as := []) hM2.1 rfl rfl rfl rfl (by decide) (by decide) (k8 rfl) ?_
  refine k_iload (pc1 := 909) dL_law_907 rfl rfl ?_
  refine k_icmp_eq (a := (Tmove f (kScF G (i + 1)) (kScF G (i + 2)) (kScF G (i + 3)) (kScF G (i + 4))).1) (b := (Tmove f (kScF G (i + 1)) (kScF G (i + 2)) (kScF G (i + 3)) (kScF G (i + 4))).1) dL_law_909 rfl (tgt := 914) rfl (by omega) (by omega) (fun _ => ?_) (fun c => absurd rfl c)
  refine k_iload (pc1 := 916) dL_law_914 rfl rfl ?_
  refine k_if_ne (a := (Tmove f (kScF G (i + 1)) (kScF G (i + 2)) (kScF G (i + 3)) (kScF G (i + 4))).1) dL_law_916 rfl (tgt := 931) rfl (by omega) (fun c916 : (Tmove f (kScF G (i + 1)) (kScF G (i + 2)) (kScF G (i + 3)) (kScF G (i + 4))).1 ≠ 0 => ?_) (fun c916 : (Tmove f (kScF G (i + 1)) (kScF G (i + 2)) (kScF G (i + 3)) (kScF G (i + 4))).1 = 0 => ?_)
  · skip
    refine k_goto dL_law_931 (tgt := 2523) rfl ?_
    refine k_forget 6 (k_loc (L' := [some (.ref (kScB G)), some (.ref pl), some (.ref o), some (.ref ol), some (.ref od), some (.int (iI ((i : Nat) : Int))), none, some (.int (iI ((Tmove f (kScF G (i + 1)) (kScF G (i + 2)) (kScF G (i + 3)) (kScF G (i + 4))).2.1))), none]) rfl ?_)
    refine k_forget 7 (k_loc (L' := [some (.ref (kScB G)), some (.ref pl), some (.ref o), some (.ref ol), some (.ref od), some (.int (iI ((i : Nat) : Int))), none, none, none]) rfl ?_)
    exact k_widen (by omega) (by omega) (IH _ _ _ _ _ _ _ hst9 hco2)
  · skip
    refine k_aload_n (pc1 := 920) dL_law_919 rfl rfl ?_
    refine k_iconst (pc1 := 921) dL_law_920 rfl ?_
    refine k_lald (i := 0) (pc1 := 922) dL_law_921 rfl hst9.2.2.2.1 (by decide) (by decide) (by decide) (k_val (v' := .long (Int32.toInt64 (iI (Tmove f (kScF G (i + 1)) (kScF G (i + 2)) (kScF G (i + 3)) (kScF G (i + 4))).2.1))) (congrArg Value.long (hX1 (by omega))) ?_)
    refine k_iload (pc1 := 924) dL_law_922 rfl rfl ?_
    refine k_i2l (pc1 := 925) dL_law_924 rfl ?_
    refine k_lcmpE (pc1 := 926) dL_law_925 rfl (by first | rfl | (rw [if_pos (by omega)]; done) | (rw [if_neg (by omega)]; done) | (rw [if_pos (by omega)]; rfl) | (rw [if_neg (by omega)]; rfl)) ?_
    refine k_if_eq (a := 0) dL_law_926 rfl (tgt := 931) rfl (by decide) (fun _ => ?_) (fun c => absurd c (by decide))
    refine k_goto dL_law_931 (tgt := 2523) rfl ?_
    refine k_forget 6 (k_loc (L' := [some (.ref (kScB G)), some (.ref pl), some (.ref o), some (.ref ol), some (.ref od), some (.int (iI ((i : Nat) : Int))), none, some (.int (iI ((Tmove f (kScF G (i + 1)) (kScF G (i + 2)) (kScF G (i + 3)) (kScF G (i + 4))).2.1))), none]) rfl ?_)
    refine k_forget 7 (k_loc (L' := [some (.ref (kScB G)), some (.ref pl), some (.ref o), some (.ref ol), some (.ref od), some (.int (iI ((i : Nat) : Int))), none, none, none]) rfl ?_)
    exact k_widen (by omega) (by omega) (IH _ _ _ _ _ _ _ hst9 hco2)
theorem lc_meetingAt {l : Launch} {G : kG} {h : kAH} (hl : l.stackTraces = false) {pl o g r ol od : Nat} {γ : kGh} {A : kAb} {f : Nat → Int} {c9 : Int} {F9 : Nat → Int64} {D9 : Nat → UInt64} (hq : kLs9 G h pl o g r ol od γ A f c9 F9 D9) (hnx9 : f 2 < 1000000) (hsr : ∀ j : Nat, -2147483648 ≤ kScF G j ∧ kScF G j < 2147483648) {i : Nat} (hi6 : i + 6 ≤ kScL G) (hN9 : kScL G ≤ 1000000) {Φ : Option Value → kAH → Prop} {k n : Nat} (IH : ∀ (h' : kAH) (γ' : kGh) (A' : kAb) (f' : Nat → Int) (c' : Int) (F' : Nat → Int64) (D' : Nat → UInt64), kLs9 G h' pl o g r ol od γ' A' f' c' F' D' → f' 2 ≤ f 2 + 1 → kW l G m_L_law 12 Φ kNo k n 2523 [some (.ref (kScB G)), some (.ref pl), some (.ref o), some (.ref ol), some (.ref od), some (.int (iI ((i : Nat) : Int))), none, none, none] [] h') : kW l G m_L_law 12 Φ kNo (k + 40) (n + 4800) 947 [some (.ref (kScB G)), some (.ref pl), some (.ref o), some (.ref ol), some (.ref od), some (.int (iI ((i : Nat) : Int))), none, none, none] [] h := by
  have hC := hq.1
  obtain ⟨hco0, hco1, hco2⟩ : kCo f (TmeetingAt f (kScF G (i + 1))) := co_meetingAt (kScF G (i + 1))
  refine k_aload_n (pc1 := 948) dL_law_947 rfl rfl ?_
  refine k_aload_n (pc1 := 949) dL_law_948 rfl rfl ?_
  refine k_iload (pc1 := 951) dL_law_949 rfl rfl ?_
  refine k_iconst (pc1 := 952) dL_law_951 rfl ?_
  refine k_iadd (a := ((i : Nat) : Int)) (b := 1) (pc1 := 953) dL_law_952 rfl ?_
  refine k_sld (i := (((i : Nat) : Int) + 1)) (pc1 := 954) dL_law_953 rfl rfl (by omega) (by omega) hN9 (k_val (v' := .int (iI (kScF G (i + 1)))) (by rw [show ((((i : Nat) : Int) + 1)).toNat = i + 1 by omega]) ?_)
  refine k_aload_n (pc1 := 955) dL_law_954 rfl rfl ?_
  refine k_callSX dL_law_955 rfl rfl lk_RL_181 o_L_meetingAt (as := [.ref pl, .int (iI (kScF G (i + 1))), .ref ol]) rfl rfl (w_L_meetingAt hl hC (hsr _) hq.2.2.2.1 hq.2.2.1.2.2.2.1) (by decide) (by decide) (by omega) (by omega) (k8 rfl) (fun v h1 hv => ?_) (fun E h9 z => z.elim)
  obtain ⟨hv1, ⟨F1, hO1, hX1⟩, γ1, A1, hC1, hO2, hfr1⟩ := hv
  subst hv1
  refine k_st (st' := [.int (iI ((TmeetingAt f (kScF G (i + 1))).1))]) rfl ?_
  obtain ⟨hM1, ht1, hD1⟩ := l9_call hq hC1 hO1 hO2 hfr1
  refine k_istore (pc1 := 960) dL_law_958 rfl (by decide) (k_loc (L' := [some (.ref (kScB G)), some (.ref pl), some (.ref o), some (.ref ol), some (.ref od), some (.int (iI ((i : Nat) : Int))), some (.int (iI ((TmeetingAt f (kScF G (i + 1))).1))), none, none]) rfl ?_)
  refine k_aload_n (pc1 := 961) dL_law_960 rfl rfl ?_
  refine k_aload_n (pc1 := 962) dL_law_961 rfl rfl ?_
  refine k_iload (pc1 := 964) dL_law_962 rfl rfl ?_
  refine k_iconst (pc1 := 965) dL_law_964 rfl ?_
  refine k_iadd (a := ((i : Nat) : Int)) (b := 1) (pc1 := 966) dL_law_965 rfl ?_
  refine k_sld (i := (((i : Nat) : Int) + 1)) (pc1 := 967) dL_law_966 rfl rfl (by omega) (by omega) hN9 (k_val (v' := .int (iI (kScF G (i + 1)))) (by rw [show ((((i : Nat) : Int) + 1)).toNat = i + 1 by omega]) ?_)
  refine k_callV dL_law_967 rfl lk_RL_183 o_X6_meetingAt (as := [.int (iI (kScF G (i + 1)))]) rfl rfl hM1.1 rfl rfl (w_X6_meetingAt hl hM1 hC.2.2 (kScF G (i + 1)) (hsr _)) (by decide) (by decide) (Nat.zero_le _) (Nat.zero_le _) (k8 rfl) (fun v h2 hv => ?_) (fun E h9 z => z.elim)
  obtain ⟨hv1, hM2, hF2⟩ := hv
  rw [hv1]
  refine k_st (st' := [.int (iI ((TmeetingAt f (kScF G (i + 1))).2.1))]) rfl ?_
  have hst9 := l9_ref hC1 hM1 ht1 hO1 hD1 hM2 hF2.w
  refine k_istore (pc1 := 972) dL_law_970 rfl (by decide) (k_loc (L' := [some (.ref (kScB G)), some (.ref pl), some (.ref o), some (.ref ol), some (.ref od), some (.int (iI ((i : Nat) : Int))), some (.int (iI ((TmeetingAt f (kScF G (i + 1))).1))), some (.int (iI ((TmeetingAt f (kScF G (i + 1))).2.1))), none]) rfl ?_)
  refine k_aload_n (pc1 := 973) dL_law_972 rfl rfl ?_
  refine k_callVP dL_law_973 rfl lk_RL_142 o_X6_thrown (w_thr hl hM2) (as := []) hM2.1 rfl rfl rfl rfl (by decide) (by decide) (k8 rfl) ?_
  refine k_iload (pc1 := 978) dL_law_976 rfl rfl ?_
  refine k_icmp_eq (a := (TmeetingAt f (kScF G (i + 1))).1) (b := (TmeetingAt f (kScF G (i + 1))).1) dL_law_978 rfl (tgt := 983) rfl (by omega) (by omega) (fun _ => ?_) (fun c => absurd rfl c)
  refine k_iload (pc1 := 985) dL_law_983 rfl rfl ?_
  refine k_if_ne (a := (TmeetingAt f (kScF G (i + 1))).1) dL_law_985 rfl (tgt := 1000) rfl (by omega) (fun c985 : (TmeetingAt f (kScF G (i + 1))).1 ≠ 0 => ?_) (fun c985 : (TmeetingAt f (kScF G (i + 1))).1 = 0 => ?_)
  · skip
    refine k_goto dL_law_1000 (tgt := 2523) rfl ?_
    refine k_forget 6 (k_loc (L' := [some (.ref (kScB G)), some (.ref pl), some (.ref o), some (.ref ol), some (.ref od), some (.int (iI ((i : Nat) : Int))), none, some (.int (iI ((TmeetingAt f (kScF G (i + 1))).2.1))), none]) rfl ?_)
    refine k_forget 7 (k_loc (L' := [some (.ref (kScB G)), some (.ref pl), some (.ref o), some (.ref ol), some (.ref od), some (.int (iI ((i : Nat) : Int))), none, none, none]) rfl ?_)
    exact k_widen (by omega) (by omega) (IH _ _ _ _ _ _ _ hst9 hco2)
  · skip
    refine k_aload_n (pc1 := 989) dL_law_988 rfl rfl ?_
    refine k_iconst (pc1 := 990) dL_law_989 rfl ?_
    refine k_lald (i := 0) (pc1 := 991) dL_law_990 rfl hst9.2.2.2.1 (by decide) (by decide) (by decide) (k_val (v' := .long (Int32.toInt64 (iI (TmeetingAt f (kScF G (i + 1))).2.1))) (congrArg Value.long (hX1 (by omega))) ?_)
    refine k_iload (pc1 := 993) dL_law_991 rfl rfl ?_
    refine k_i2l (pc1 := 994) dL_law_993 rfl ?_
    refine k_lcmpE (pc1 := 995) dL_law_994 rfl (by first | rfl | (rw [if_pos (by omega)]; done) | (rw [if_neg (by omega)]; done) | (rw [if_pos (by omega)]; rfl) | (rw [if_neg (by omega)]; rfl)) ?_
    refine k_if_eq (a := 0) dL_law_995 rfl (tgt := 1000) rfl (by decide) (fun _ => ?_) (fun c => absurd c (by decide))
    refine k_goto dL_law_1000 (tgt := 2523) rfl ?_
    refine k_forget 6 (k_loc (L' := [some (.ref (kScB G)), some (.ref pl), some (.ref o), some (.ref ol), some (.ref od), some (.int (iI ((i : Nat) : Int))), none, some (.int (iI ((TmeetingAt f (kScF G (i + 1))).2.1))), none]) rfl ?_)
    refine k_forget 7 (k_loc (L' := [some (.ref (kScB G)), some (.ref pl), some (.ref o), some (.ref ol), some (.ref od), some (.int (iI ((i : Nat) : Int))), none, none, none]) rfl ?_)
    exact k_widen (by omega) (by omega) (IH _ _ _ _ _ _ _ hst9 hco2)
theorem lc_hostOf {l : Launch} {G : kG} {h : kAH} (hl : l.stackTraces = false) {pl o g r ol od : Nat} {γ : kGh} {A : kAb} {f : Nat → Int} {c9 : Int} {F9 : Nat → Int64} {D9 : Nat → UInt64} (hq : kLs9 G h pl o g r ol od γ A f c9 F9 D9) (hnx9 : f 2 < 1000000) (hsr : ∀ j : Nat, -2147483648 ≤ kScF G j ∧ kScF G j < 2147483648) {i : Nat} (hi6 : i + 6 ≤ kScL G) (hN9 : kScL G ≤ 1000000) {Φ : Option Value → kAH → Prop} {k n : Nat} (IH : ∀ (h' : kAH) (γ' : kGh) (A' : kAb) (f' : Nat → Int) (c' : Int) (F' : Nat → Int64) (D' : Nat → UInt64), kLs9 G h' pl o g r ol od γ' A' f' c' F' D' → f' 2 ≤ f 2 + 1 → kW l G m_L_law 12 Φ kNo k n 2523 [some (.ref (kScB G)), some (.ref pl), some (.ref o), some (.ref ol), some (.ref od), some (.int (iI ((i : Nat) : Int))), none, none, none] [] h') : kW l G m_L_law 12 Φ kNo (k + 40) (n + 4800) 1003 [some (.ref (kScB G)), some (.ref pl), some (.ref o), some (.ref ol), some (.ref od), some (.int (iI ((i : Nat) : Int))), none, none, none] [] h := by
  have hC := hq.1
  obtain ⟨hco0, hco1, hco2⟩ : kCo f (ThostOf f (kScF G (i + 1))) := co_hostOf (kScF G (i + 1))
  refine k_aload_n (pc1 := 1004) dL_law_1003 rfl rfl ?_
  refine k_aload_n (pc1 := 1005) dL_law_1004 rfl rfl ?_
  refine k_iload (pc1 := 1007) dL_law_1005 rfl rfl ?_
  refine k_iconst (pc1 := 1008) dL_law_1007 rfl ?_
  refine k_iadd (a := ((i : Nat) : Int)) (b := 1) (pc1 := 1009) dL_law_1008 rfl ?_
  refine k_sld (i := (((i : Nat) : Int) + 1)) (pc1 := 1010) dL_law_1009 rfl rfl (by omega) (by omega) hN9 (k_val (v' := .int (iI (kScF G (i + 1)))) (by rw [show ((((i : Nat) : Int) + 1)).toNat = i + 1 by omega]) ?_)
  refine k_aload_n (pc1 := 1011) dL_law_1010 rfl rfl ?_
  refine k_callSX dL_law_1011 rfl rfl lk_RL_184 o_L_hostOf (as := [.ref pl, .int (iI (kScF G (i + 1))), .ref ol]) rfl rfl (w_L_hostOf hl hC (hsr _) hq.2.2.2.1 hq.2.2.1.2.2.2.1) (by decide) (by decide) (by omega) (by omega) (k8 rfl) (fun v h1 hv => ?_) (fun E h9 z => z.elim)
  obtain ⟨hv1, ⟨F1, hO1, hX1⟩, γ1, A1, hC1, hO2, hfr1⟩ := hv
  subst hv1
  refine k_st (st' := [.int (iI ((ThostOf f (kScF G (i + 1))).1))]) rfl ?_
  obtain ⟨hM1, ht1, hD1⟩ := l9_call hq hC1 hO1 hO2 hfr1
  refine k_istore (pc1 := 1016) dL_law_1014 rfl (by decide) (k_loc (L' := [some (.ref (kScB G)), some (.ref pl), some (.ref o), some (.ref ol), some (.ref od), some (.int (iI ((i : Nat) : Int))), some (.int (iI ((ThostOf f (kScF G (i + 1))).1))), none, none]) rfl ?_)
  refine k_aload_n (pc1 := 1017) dL_law_1016 rfl rfl ?_
  refine k_aload_n (pc1 := 1018) dL_law_1017 rfl rfl ?_
  refine k_iload (pc1 := 1020) dL_law_1018 rfl rfl ?_
  refine k_iconst (pc1 := 1021) dL_law_1020 rfl ?_
  refine k_iadd (a := ((i : Nat) : Int)) (b := 1) (pc1 := 1022) dL_law_1021 rfl ?_
  refine k_sld (i := (((i : Nat) : Int) + 1)) (pc1 := 1023) dL_law_1022 rfl rfl (by omega) (by omega) hN9 (k_val (v' := .int (iI (kScF G (i + 1)))) (by rw [show ((((i : Nat) : Int) + 1)).toNat = i + 1 by omega]) ?_)
  refine k_callV dL_law_1023 rfl lk_RL_186 o_X6_hostOf (as := [.int (iI (kScF G (i + 1)))]) rfl rfl hM1.1 rfl rfl (w_X6_hostOf hl hM1 hC.2.2 (kScF G (i + 1)) (hsr _)) (by decide) (by decide) (Nat.zero_le _) (Nat.zero_le _) (k8 rfl) (fun v h2 hv => ?_) (fun E h9 z => z.elim)
  obtain ⟨hv1, hM2, hF2⟩ := hv
  rw [hv1]
  refine k_st (st' := [.int (iI ((ThostOf f (kScF G (i + 1))).2.1))]) rfl ?_
  have hst9 := l9_ref hC1 hM1 ht1 hO1 hD1 hM2 hF2.w
  refine k_istore (pc1 := 1028) dL_law_1026 rfl (by decide) (k_loc (L' := [some (.ref (kScB G)), some (.ref pl), some (.ref o), some (.ref ol), some (.ref od), some (.int (iI ((i : Nat) : Int))), some (.int (iI ((ThostOf f (kScF G (i + 1))).1))), some (.int (iI ((ThostOf f (kScF G (i + 1))).2.1))), none]) rfl ?_)
  refine k_aload_n (pc1 := 1029) dL_law_1028 rfl rfl ?_
  refine k_callVP dL_law_1029 rfl lk_RL_142 o_X6_thrown (w_thr hl hM2) (as := []) hM2.1 rfl rfl rfl rfl (by decide) (by decide) (k8 rfl) ?_
  refine k_iload (pc1 := 1034) dL_law_1032 rfl rfl ?_
  refine k_icmp_eq (a := (ThostOf f (kScF G (i + 1))).1) (b := (ThostOf f (kScF G (i + 1))).1) dL_law_1034 rfl (tgt := 1039) rfl (by omega) (by omega) (fun _ => ?_) (fun c => absurd rfl c)
  refine k_iload (pc1 := 1041) dL_law_1039 rfl rfl ?_
  refine k_if_ne (a := (ThostOf f (kScF G (i + 1))).1) dL_law_1041 rfl (tgt := 1056) rfl (by omega) (fun c1041 : (ThostOf f (kScF G (i + 1))).1 ≠ 0 => ?_) (fun c1041 : (ThostOf f (kScF G (i + 1))).1 = 0 => ?_)
  · skip
    refine k_goto dL_law_1056 (tgt := 2523) rfl ?_
    refine k_forget 6 (k_loc (L' := [some (.ref (kScB G)), some (.ref pl), some (.ref o), some (.ref ol), some (.ref od), some (.int (iI ((i : Nat) : Int))), none, some (.int (iI ((ThostOf f (kScF G (i + 1))).2.1))), none]) rfl ?_)
    refine k_forget 7 (k_loc (L' := [some (.ref (kScB G)), some (.ref pl), some (.ref o), some (.ref ol), some (.ref od), some (.int (iI ((i : Nat) : Int))), none, none, none]) rfl ?_)
    exact k_widen (by omega) (by omega) (IH _ _ _ _ _ _ _ hst9 hco2)
  · skip
    refine k_aload_n (pc1 := 1045) dL_law_1044 rfl rfl ?_
    refine k_iconst (pc1 := 1046) dL_law_1045 rfl ?_
    refine k_lald (i := 0) (pc1 := 1047) dL_law_1046 rfl hst9.2.2.2.1 (by decide) (by decide) (by decide) (k_val (v' := .long (Int32.toInt64 (iI (ThostOf f (kScF G (i + 1))).2.1))) (congrArg Value.long (hX1 (by omega))) ?_)
    refine k_iload (pc1 := 1049) dL_law_1047 rfl rfl ?_
    refine k_i2l (pc1 := 1050) dL_law_1049 rfl ?_
    refine k_lcmpE (pc1 := 1051) dL_law_1050 rfl (by first | rfl | (rw [if_pos (by omega)]; done) | (rw [if_neg (by omega)]; done) | (rw [if_pos (by omega)]; rfl) | (rw [if_neg (by omega)]; rfl)) ?_
    refine k_if_eq (a := 0) dL_law_1051 rfl (tgt := 1056) rfl (by decide) (fun _ => ?_) (fun c => absurd c (by decide))
    refine k_goto dL_law_1056 (tgt := 2523) rfl ?_
    refine k_forget 6 (k_loc (L' := [some (.ref (kScB G)), some (.ref pl), some (.ref o), some (.ref ol), some (.ref od), some (.int (iI ((i : Nat) : Int))), none, some (.int (iI ((ThostOf f (kScF G (i + 1))).2.1))), none]) rfl ?_)
    refine k_forget 7 (k_loc (L' := [some (.ref (kScB G)), some (.ref pl), some (.ref o), some (.ref ol), some (.ref od), some (.int (iI ((i : Nat) : Int))), none, none, none]) rfl ?_)
    exact k_widen (by omega) (by omega) (IH _ _ _ _ _ _ _ hst9 hco2)
theorem lc_answerOf {l : Launch} {G : kG} {h : kAH} (hl : l.stackTraces = false) {pl o g r ol od : Nat} {γ : kGh} {A : kAb} {f : Nat → Int} {c9 : Int} {F9 : Nat → Int64} {D9 : Nat → UInt64} (hq : kLs9 G h pl o g r ol od γ A f c9 F9 D9) (hnx9 : f 2 < 1000000) (hsr : ∀ j : Nat, -2147483648 ≤ kScF G j ∧ kScF G j < 2147483648) {i : Nat} (hi6 : i + 6 ≤ kScL G) (hN9 : kScL G ≤ 1000000) {Φ : Option Value → kAH → Prop} {k n : Nat} (IH : ∀ (h' : kAH) (γ' : kGh) (A' : kAb) (f' : Nat → Int) (c' : Int) (F' : Nat → Int64) (D' : Nat → UInt64), kLs9 G h' pl o g r ol od γ' A' f' c' F' D' → f' 2 ≤ f 2 + 1 → kW l G m_L_law 12 Φ kNo k n 2523 [some (.ref (kScB G)), some (.ref pl), some (.ref o), some (.ref ol), some (.ref od), some (.int (iI ((i : Nat) : Int))), none, none, none] [] h') : kW l G m_L_law 12 Φ kNo (k + 40) (n + 4800) 1059 [some (.ref (kScB G)), some (.ref pl), some (.ref o), some (.ref ol), some (.ref od), some (.int (iI ((i : Nat) : Int))), none, none, none] [] h := by
  have hC := hq.1
  obtain ⟨hco0, hco1, hco2⟩ : kCo f (TanswerOf f (kScF G (i + 1)) (kScF G (i + 2))) := co_answerOf (kScF G (i + 1)) (kScF G (i + 2))
  refine k_aload_n (pc1 := 1060) dL_law_1059 rfl rfl ?_
  refine k_aload_n (pc1 := 1061) dL_law_1060 rfl rfl ?_
  refine k_iload (pc1 := 1063) dL_law_1061 rfl rfl ?_
  refine k_iconst (pc1 := 1064) dL_law_1063 rfl ?_
  refine k_iadd (a := ((i : Nat) : Int)) (b := 1) (pc1 := 1065) dL_law_1064 rfl ?_
  refine k_sld (i := (((i : Nat) : Int) + 1)) (pc1 := 1066) dL_law_1065 rfl rfl (by omega) (by omega) hN9 (k_val (v' := .int (iI (kScF G (i + 1)))) (by rw [show ((((i : Nat) : Int) + 1)).toNat = i + 1 by omega]) ?_)
  refine k_aload_n (pc1 := 1067) dL_law_1066 rfl rfl ?_
  refine k_iload (pc1 := 1069) dL_law_1067 rfl rfl ?_
  refine k_iconst (pc1 := 1070) dL_law_1069 rfl ?_
  refine k_iadd (a := ((i : Nat) : Int)) (b := 2) (pc1 := 1071) dL_law_1070 rfl ?_
  refine k_sld (i := (((i : Nat) : Int) + 2)) (pc1 := 1072) dL_law_1071 rfl rfl (by omega) (by omega) hN9 (k_val (v' := .int (iI (kScF G (i + 2)))) (by rw [show ((((i : Nat) : Int) + 2)).toNat = i + 2 by omega]) ?_)
  refine k_aload_n (pc1 := 1073) dL_law_1072 rfl rfl ?_
  refine k_callSX dL_law_1073 rfl rfl lk_RL_187 o_L_answerOf (as := [.ref pl, .int (iI (kScF G (i + 1))), .int (iI (kScF G (i + 2))), .ref ol]) rfl rfl (w_L_answerOf hl hC (hsr _) (hsr _) hq.2.2.2.1 hq.2.2.1.2.2.2.1) (by decide) (by decide) (by omega) (by omega) (k8 rfl) (fun v h1 hv => ?_) (fun E h9 z => z.elim)
  obtain ⟨hv1, ⟨F1, hO1, hX1⟩, γ1, A1, hC1, hO2, hfr1⟩ := hv
  subst hv1
  refine k_st (st' := [.int (iI ((TanswerOf f (kScF G (i + 1)) (kScF G (i + 2))).1))]) rfl ?_
  obtain ⟨hM1, ht1, hD1⟩ := l9_call hq hC1 hO1 hO2 hfr1
  refine k_istore (pc1 := 1078) dL_law_1076 rfl (by decide) (k_loc (L' := [some (.ref (kScB G)), some (.ref pl), some (.ref o), some (.ref ol), some (.ref od), some (.int (iI ((i : Nat) : Int))), some (.int (iI ((TanswerOf f (kScF G (i + 1)) (kScF G (i + 2))).1))), none, none]) rfl ?_)
  refine k_aload_n (pc1 := 1079) dL_law_1078 rfl rfl ?_
  refine k_aload_n (pc1 := 1080) dL_law_1079 rfl rfl ?_
  refine k_iload (pc1 := 1082) dL_law_1080 rfl rfl ?_
  refine k_iconst (pc1 := 1083) dL_law_1082 rfl ?_
  refine k_iadd (a := ((i : Nat) : Int)) (b := 1) (pc1 := 1084) dL_law_1083 rfl ?_
  refine k_sld (i := (((i : Nat) : Int) + 1)) (pc1 := 1085) dL_law_1084 rfl rfl (by omega) (by omega) hN9 (k_val (v' := .int (iI (kScF G (i + 1)))) (by rw [show ((((i : Nat) : Int) + 1)).toNat = i + 1 by omega]) ?_)
  refine k_aload_n (pc1 := 1086) dL_law_1085 rfl rfl ?_
  refine k_iload (pc1 := 1088) dL_law_1086 rfl rfl ?_
  refine k_iconst (pc1 := 1089) dL_law_1088 rfl ?_
  refine k_iadd (a := ((i : Nat) : Int)) (b := 2) (pc1 := 1090) dL_law_1089 rfl ?_
  refine k_sld (i := (((i : Nat) : Int) + 2)) (pc1 := 1091) dL_law_1090 rfl rfl (by omega) (by omega) hN9 (k_val (v' := .int (iI (kScF G (i + 2)))) (by rw [show ((((i : Nat) : Int) + 2)).toNat = i + 2 by omega]) ?_)
  refine k_callV dL_law_1091 rfl lk_RL_189 o_X6_answerOf (as := [.int (iI (kScF G (i + 1))), .int (iI (kScF G (i + 2)))]) rfl rfl hM1.1 rfl rfl (w_X6_answerOf hl hM1 hC.2.2 (kScF G (i + 1)) (kScF G (i + 2)) (hsr _) (hsr _)) (by decide) (by decide) (Nat.zero_le _) (Nat.zero_le _) (k8 rfl) (fun v h2 hv => ?_) (fun E h9 z => z.elim)
  obtain ⟨hv1, hM2, hF2⟩ := hv
  rw [hv1]
  refine k_st (st' := [.int (iI ((TanswerOf f (kScF G (i + 1)) (kScF G (i + 2))).2.1))]) rfl ?_
  have hst9 := l9_ref hC1 hM1 ht1 hO1 hD1 hM2 hF2.w
  refine k_istore (pc1 := 1096) dL_law_1094 rfl (by decide) (k_loc (L' := [some (.ref (kScB G)), some (.ref pl), some (.ref o), some (.ref ol), some (.ref od), some (.int (iI ((i : Nat) : Int))), some (.int (iI ((TanswerOf f (kScF G (i + 1)) (kScF G (i + 2))).1))), some (.int (iI ((TanswerOf f (kScF G (i + 1)) (kScF G (i + 2))).2.1))), none]) rfl ?_)
  refine k_aload_n (pc1 := 1097) dL_law_1096 rfl rfl ?_
  refine k_callVP dL_law_1097 rfl lk_RL_142 o_X6_thrown (w_thr hl hM2) (as := []) hM2.1 rfl rfl rfl rfl (by decide) (by decide) (k8 rfl) ?_
  refine k_iload (pc1 := 1102) dL_law_1100 rfl rfl ?_
  refine k_icmp_eq (a := (TanswerOf f (kScF G (i + 1)) (kScF G (i + 2))).1) (b := (TanswerOf f (kScF G (i + 1)) (kScF G (i + 2))).1) dL_law_1102 rfl (tgt := 1107) rfl (by omega) (by omega) (fun _ => ?_) (fun c => absurd rfl c)
  refine k_iload (pc1 := 1109) dL_law_1107 rfl rfl ?_
  refine k_if_ne (a := (TanswerOf f (kScF G (i + 1)) (kScF G (i + 2))).1) dL_law_1109 rfl (tgt := 1124) rfl (by omega) (fun c1109 : (TanswerOf f (kScF G (i + 1)) (kScF G (i + 2))).1 ≠ 0 => ?_) (fun c1109 : (TanswerOf f (kScF G (i + 1)) (kScF G (i + 2))).1 = 0 => ?_)
  · skip
    refine k_goto dL_law_1124 (tgt := 2523) rfl ?_
    refine k_forget 6 (k_loc (L' := [some (.ref (kScB G)), some (.ref pl), some (.ref o), some (.ref ol), some (.ref od), some (.int (iI ((i : Nat) : Int))), none, some (.int (iI ((TanswerOf f (kScF G (i + 1)) (kScF G (i + 2))).2.1))), none]) rfl ?_)
    refine k_forget 7 (k_loc (L' := [some (.ref (kScB G)), some (.ref pl), some (.ref o), some (.ref ol), some (.ref od), some (.int (iI ((i : Nat) : Int))), none, none, none]) rfl ?_)
    exact k_widen (by omega) (by omega) (IH _ _ _ _ _ _ _ hst9 hco2)
  · skip
    refine k_aload_n (pc1 := 1113) dL_law_1112 rfl rfl ?_
    refine k_iconst (pc1 := 1114) dL_law_1113 rfl ?_
    refine k_lald (i := 0) (pc1 := 1115) dL_law_1114 rfl hst9.2.2.2.1 (by decide) (by decide) (by decide) (k_val (v' := .long (Int32.toInt64 (iI (TanswerOf f (kScF G (i + 1)) (kScF G (i + 2))).2.1))) (congrArg Value.long (hX1 (by omega))) ?_)
    refine k_iload (pc1 := 1117) dL_law_1115 rfl rfl ?_
    refine k_i2l (pc1 := 1118) dL_law_1117 rfl ?_
    refine k_lcmpE (pc1 := 1119) dL_law_1118 rfl (by first | rfl | (rw [if_pos (by omega)]; done) | (rw [if_neg (by omega)]; done) | (rw [if_pos (by omega)]; rfl) | (rw [if_neg (by omega)]; rfl)) ?_
    refine k_if_eq (a := 0) dL_law_1119 rfl (tgt := 1124) rfl (by decide) (fun _ => ?_) (fun c => absurd c (by decide))
    refine k_goto dL_law_1124 (tgt := 2523) rfl ?_
    refine k_forget 6 (k_loc (L' := [some (.ref (kScB G)), some (.ref pl), some (.ref o), some (.ref ol), some (.ref od), some (.int (iI ((i : Nat) : Int))), none, some (.int (iI ((TanswerOf f (kScF G (i + 1)) (kScF G (i + 2))).2.1))), none]) rfl ?_)
    refine k_forget 7 (k_loc (L' := [some (.ref (kScB G)), some (.ref pl), some (.ref o), some (.ref ol), some (.ref od), some (.int (iI ((i : Nat) : Int))), none, none, none]) rfl ?_)
    exact k_widen (by omega) (by omega) (IH _ _ _ _ _ _ _ hst9 hco2)
theorem lc_expected {l : Launch} {G : kG} {h : kAH} (hl : l.stackTraces = false) {pl o g r ol od : Nat} {γ : kGh} {A : kAb} {f : Nat → Int} {c9 : Int} {F9 : Nat → Int64} {D9 : Nat → UInt64} (hq : kLs9 G h pl o g r ol od γ A f c9 F9 D9) (hnx9 : f 2 < 1000000) (hsr : ∀ j : Nat, -2147483648 ≤ kScF G j ∧ kScF G j < 2147483648) {i : Nat} (hi6 : i + 6 ≤ kScL G) (hN9 : kScL G ≤ 1000000) {Φ : Option Value → kAH → Prop} {k n : Nat} (IH : ∀ (h' : kAH) (γ' : kGh) (A' : kAb) (f' : Nat → Int) (c' : Int) (F' : Nat → Int64) (D' : Nat → UInt64), kLs9 G h' pl o g r ol od γ' A' f' c' F' D' → f' 2 ≤ f 2 + 1 → kW l G m_L_law 12 Φ kNo k n 2523 [some (.ref (kScB G)), some (.ref pl), some (.ref o), some (.ref ol), some (.ref od), some (.int (iI ((i : Nat) : Int))), none, none, none] [] h') : kW l G m_L_law 12 Φ kNo (k + 40) (n + 4800) 1127 [some (.ref (kScB G)), some (.ref pl), some (.ref o), some (.ref ol), some (.ref od), some (.int (iI ((i : Nat) : Int))), none, none, none] [] h := by
  have hC := hq.1
  obtain ⟨hco0, hco1, hco2⟩ : kCo f (Texpected f (kScF G (i + 1))) := co_expected (kScF G (i + 1))
  refine k_aload_n (pc1 := 1128) dL_law_1127 rfl rfl ?_
  refine k_aload_n (pc1 := 1129) dL_law_1128 rfl rfl ?_
  refine k_iload (pc1 := 1131) dL_law_1129 rfl rfl ?_
  refine k_iconst (pc1 := 1132) dL_law_1131 rfl ?_
  refine k_iadd (a := ((i : Nat) : Int)) (b := 1) (pc1 := 1133) dL_law_1132 rfl ?_
  refine k_sld (i := (((i : Nat) : Int) + 1)) (pc1 := 1134) dL_law_1133 rfl rfl (by omega) (by omega) hN9 (k_val (v' := .int (iI (kScF G (i + 1)))) (by rw [show ((((i : Nat) : Int) + 1)).toNat = i + 1 by omega]) ?_)
  refine k_aload_n (pc1 := 1135) dL_law_1134 rfl rfl ?_
  refine k_callSX dL_law_1135 rfl rfl lk_RL_190 o_L_expected (as := [.ref pl, .int (iI (kScF G (i + 1))), .ref ol]) rfl rfl (w_L_expected hl hC (hsr _) hq.2.2.2.1 hq.2.2.1.2.2.2.1) (by decide) (by decide) (by omega) (by omega) (k8 rfl) (fun v h1 hv => ?_) (fun E h9 z => z.elim)
  obtain ⟨hv1, ⟨F1, hO1, hX1⟩, γ1, A1, hC1, hO2, hfr1⟩ := hv
  subst hv1
  refine k_st (st' := [.int (iI ((Texpected f (kScF G (i + 1))).1))]) rfl ?_
  obtain ⟨hM1, ht1, hD1⟩ := l9_call hq hC1 hO1 hO2 hfr1
  refine k_istore (pc1 := 1140) dL_law_1138 rfl (by decide) (k_loc (L' := [some (.ref (kScB G)), some (.ref pl), some (.ref o), some (.ref ol), some (.ref od), some (.int (iI ((i : Nat) : Int))), some (.int (iI ((Texpected f (kScF G (i + 1))).1))), none, none]) rfl ?_)
  refine k_aload_n (pc1 := 1141) dL_law_1140 rfl rfl ?_
  refine k_aload_n (pc1 := 1142) dL_law_1141 rfl rfl ?_
  refine k_iload (pc1 := 1144) dL_law_1142 rfl rfl ?_
  refine k_iconst (pc1 := 1145) dL_law_1144 rfl ?_
  refine k_iadd (a := ((i : Nat) : Int)) (b := 1) (pc1 := 1146) dL_law_1145 rfl ?_
  refine k_sld (i := (((i : Nat) : Int) + 1)) (pc1 := 1147) dL_law_1146 rfl rfl (by omega) (by omega) hN9 (k_val (v' := .int (iI (kScF G (i + 1)))) (by rw [show ((((i : Nat) : Int) + 1)).toNat = i + 1 by omega]) ?_)
  refine k_callV dL_law_1147 rfl lk_RL_192 o_X6_expected (as := [.int (iI (kScF G (i + 1)))]) rfl rfl hM1.1 rfl rfl (w_X6_expected hl hM1 hC.2.2 (kScF G (i + 1)) (hsr _)) (by decide) (by decide) (Nat.zero_le _) (Nat.zero_le _) (k8 rfl) (fun v h2 hv => ?_) (fun E h9 z => z.elim)
  obtain ⟨hv1, hM2, hF2⟩ := hv
  rw [hv1]
  refine k_st (st' := [.int (iI ((Texpected f (kScF G (i + 1))).2.1))]) rfl ?_
  have hst9 := l9_ref hC1 hM1 ht1 hO1 hD1 hM2 hF2.w
  refine k_istore (pc1 := 1152) dL_law_1150 rfl (by decide) (k_loc (L' := [some (.ref (kScB G)), some (.ref pl), some (.ref o), some (.ref ol), some (.ref od), some (.int (iI ((i : Nat) : Int))), some (.int (iI ((Texpected f (kScF G (i + 1))).1))), some (.int (iI ((Texpected f (kScF G (i + 1))).2.1))), none]) rfl ?_)
  refine k_aload_n (pc1 := 1153) dL_law_1152 rfl rfl ?_
  refine k_callVP dL_law_1153 rfl lk_RL_142 o_X6_thrown (w_thr hl hM2) (as := []) hM2.1 rfl rfl rfl rfl (by decide) (by decide) (k8 rfl) ?_
  refine k_iload (pc1 := 1158) dL_law_1156 rfl rfl ?_
  refine k_icmp_eq (a := (Texpected f (kScF G (i + 1))).1) (b := (Texpected f (kScF G (i + 1))).1) dL_law_1158 rfl (tgt := 1163) rfl (by omega) (by omega) (fun _ => ?_) (fun c => absurd rfl c)
  refine k_iload (pc1 := 1165) dL_law_1163 rfl rfl ?_
  refine k_if_ne (a := (Texpected f (kScF G (i + 1))).1) dL_law_1165 rfl (tgt := 1180) rfl (by omega) (fun c1165 : (Texpected f (kScF G (i + 1))).1 ≠ 0 => ?_) (fun c1165 : (Texpected f (kScF G (i + 1))).1 = 0 => ?_)
  · skip
    refine k_goto dL_law_1180 (tgt := 2523) rfl ?_
    refine k_forget 6 (k_loc (L' := [some (.ref (kScB G)), some (.ref pl), some (.ref o), some (.ref ol), some (.ref od), some (.int (iI ((i : Nat) : Int))), none, some (.int (iI ((Texpected f (kScF G (i + 1))).2.1))), none]) rfl ?_)
    refine k_forget 7 (k_loc (L' := [some (.ref (kScB G)), some (.ref pl), some (.ref o), some (.ref ol), some (.ref od), some (.int (iI ((i : Nat) : Int))), none, none, none]) rfl ?_)
    exact k_widen (by omega) (by omega) (IH _ _ _ _ _ _ _ hst9 hco2)
  · skip
    refine k_aload_n (pc1 := 1169) dL_law_1168 rfl rfl ?_
    refine k_iconst (pc1 := 1170) dL_law_1169 rfl ?_
    refine k_lald (i := 0) (pc1 := 1171) dL_law_1170 rfl hst9.2.2.2.1 (by decide) (by decide) (by decide) (k_val (v' := .long (Int32.toInt64 (iI (Texpected f (kScF G (i + 1))).2.1))) (congrArg Value.long (hX1 (by omega))) ?_)
    refine k_iload (pc1 := 1173) dL_law_1171 rfl rfl ?_
    refine k_i2l (pc1 := 1174) dL_law_1173 rfl ?_
    refine k_lcmpE (pc1 := 1175) dL_law_1174 rfl (by first | rfl | (rw [if_pos (by omega)]; done) | (rw [if_neg (by omega)]; done) | (rw [if_pos (by omega)]; rfl) | (rw [if_neg (by omega)]; rfl)) ?_
    refine k_if_eq (a := 0) dL_law_1175 rfl (tgt := 1180) rfl (by decide) (fun _ => ?_) (fun c => absurd c (by decide))
    refine k_goto dL_law_1180 (tgt := 2523) rfl ?_
    refine k_forget 6 (k_loc (L' := [some (.ref (kScB G)), some (.ref pl), some (.ref o), some (.ref ol), some (.ref od), some (.int (iI ((i : Nat) : Int))), none, some (.int (iI ((Texpected f (kScF G (i + 1))).2.1))), none]) rfl ?_)
    refine k_forget 7 (k_loc (L' := [some (.ref (kScB G)), some (.ref pl), some (.ref o), some (.ref ol), some (.ref od), some (.int (iI ((i : Nat) : Int))), none, none, none]) rfl ?_)
    exact k_widen (by omega) (by omega) (IH _ _ _ _ _ _ _ hst9 hco2)
theorem lc_dateCount {l : Launch} {G : kG} {h : kAH} (hl : l.stackTraces = false) {pl o g r ol od : Nat} {γ : kGh} {A : kAb} {f : Nat → Int} {c9 : Int} {F9 : Nat → Int64} {D9 : Nat → UInt64} (hq : kLs9 G h pl o g r ol od γ A f c9 F9 D9) (hnx9 : f 2 < 1000000) (hsr : ∀ j : Nat, -2147483648 ≤ kScF G j ∧ kScF G j < 2147483648) {i : Nat} (hi6 : i + 6 ≤ kScL G) (hN9 : kScL G ≤ 1000000) {Φ : Option Value → kAH → Prop} {k n : Nat} (IH : ∀ (h' : kAH) (γ' : kGh) (A' : kAb) (f' : Nat → Int) (c' : Int) (F' : Nat → Int64) (D' : Nat → UInt64), kLs9 G h' pl o g r ol od γ' A' f' c' F' D' → f' 2 ≤ f 2 + 1 → kW l G m_L_law 12 Φ kNo k n 2523 [some (.ref (kScB G)), some (.ref pl), some (.ref o), some (.ref ol), some (.ref od), some (.int (iI ((i : Nat) : Int))), none, none, none] [] h') : kW l G m_L_law 12 Φ kNo (k + 40) (n + 4800) 1183 [some (.ref (kScB G)), some (.ref pl), some (.ref o), some (.ref ol), some (.ref od), some (.int (iI ((i : Nat) : Int))), none, none, none] [] h := by
  have hC := hq.1
  obtain ⟨hco0, hco1, hco2⟩ : kCo f (TdateCount f (kScF G (i + 1))) := co_dateCount (kScF G (i + 1))
  refine k_aload_n (pc1 := 1184) dL_law_1183 rfl rfl ?_
  refine k_aload_n (pc1 := 1185) dL_law_1184 rfl rfl ?_
  refine k_iload (pc1 := 1187) dL_law_1185 rfl rfl ?_
  refine k_iconst (pc1 := 1188) dL_law_1187 rfl ?_
  refine k_iadd (a := ((i : Nat) : Int)) (b := 1) (pc1 := 1189) dL_law_1188 rfl ?_
  refine k_sld (i := (((i : Nat) : Int) + 1)) (pc1 := 1190) dL_law_1189 rfl rfl (by omega) (by omega) hN9 (k_val (v' := .int (iI (kScF G (i + 1)))) (by rw [show ((((i : Nat) : Int) + 1)).toNat = i + 1 by omega]) ?_)
  refine k_aload_n (pc1 := 1191) dL_law_1190 rfl rfl ?_
  refine k_callSX dL_law_1191 rfl rfl lk_RL_193 o_L_dateCount (as := [.ref pl, .int (iI (kScF G (i + 1))), .ref ol]) rfl rfl (w_L_dateCount hl hC (hsr _) hq.2.2.2.1 hq.2.2.1.2.2.2.1) (by decide) (by decide) (by omega) (by omega) (k8 rfl) (fun v h1 hv => ?_) (fun E h9 z => z.elim)
  obtain ⟨hv1, ⟨F1, hO1, hX1⟩, γ1, A1, hC1, hO2, hfr1⟩ := hv
  subst hv1
  refine k_st (st' := [.int (iI ((TdateCount f (kScF G (i + 1))).1))]) rfl ?_
  obtain ⟨hM1, ht1, hD1⟩ := l9_call hq hC1 hO1 hO2 hfr1
  refine k_istore (pc1 := 1196) dL_law_1194 rfl (by decide) (k_loc (L' := [some (.ref (kScB G)), some (.ref pl), some (.ref o), some (.ref ol), some (.ref od), some (.int (iI ((i : Nat) : Int))), some (.int (iI ((TdateCount f (kScF G (i + 1))).1))), none, none]) rfl ?_)
  refine k_aload_n (pc1 := 1197) dL_law_1196 rfl rfl ?_
  refine k_aload_n (pc1 := 1198) dL_law_1197 rfl rfl ?_
  refine k_iload (pc1 := 1200) dL_law_1198 rfl rfl ?_
  refine k_iconst (pc1 := 1201) dL_law_1200 rfl ?_
  refine k_iadd (a := ((i : Nat) : Int)) (b := 1) (pc1 := 1202) dL_law_1201 rfl ?_
  refine k_sld (i := (((i : Nat) : Int) + 1)) (pc1 := 1203) dL_law_1202 rfl rfl (by omega) (by omega) hN9 (k_val (v' := .int (iI (kScF G (i + 1)))) (by rw [show ((((i : Nat) : Int) + 1)).toNat = i + 1 by omega]) ?_)
  refine k_callV dL_law_1203 rfl lk_RL_195 o_X6_dateCount (as := [.int (iI (kScF G (i + 1)))]) rfl rfl hM1.1 rfl rfl (w_X6_dateCount hl hM1 hC.2.2 (kScF G (i + 1)) (hsr _)) (by decide) (by decide) (Nat.zero_le _) (Nat.zero_le _) (k8 rfl) (fun v h2 hv => ?_) (fun E h9 z => z.elim)
  obtain ⟨hv1, hM2, hF2⟩ := hv
  rw [hv1]
  refine k_st (st' := [.int (iI ((TdateCount f (kScF G (i + 1))).2.1))]) rfl ?_
  have hst9 := l9_ref hC1 hM1 ht1 hO1 hD1 hM2 hF2.w
  refine k_istore (pc1 := 1208) dL_law_1206 rfl (by decide) (k_loc (L' := [some (.ref (kScB G)), some (.ref pl), some (.ref o), some (.ref ol), some (.ref od), some (.int (iI ((i : Nat) : Int))), some (.int (iI ((TdateCount f (kScF G (i + 1))).1))), some (.int (iI ((TdateCount f (kScF G (i + 1))).2.1))), none]) rfl ?_)
  refine k_aload_n (pc1 := 1209) dL_law_1208 rfl rfl ?_
  refine k_callVP dL_law_1209 rfl lk_RL_142 o_X6_thrown (w_thr hl hM2) (as := []) hM2.1 rfl rfl rfl rfl (by decide) (by decide) (k8 rfl) ?_
  refine k_iload (pc1 := 1214) dL_law_1212 rfl rfl ?_
  refine k_icmp_eq (a := (TdateCount f (kScF G (i + 1))).1) (b := (TdateCount f (kScF G (i + 1))).1) dL_law_1214 rfl (tgt := 1219) rfl (by omega) (by omega) (fun _ => ?_) (fun c => absurd rfl c)
  refine k_iload (pc1 := 1221) dL_law_1219 rfl rfl ?_
  refine k_if_ne (a := (TdateCount f (kScF G (i + 1))).1) dL_law_1221 rfl (tgt := 1236) rfl (by omega) (fun c1221 : (TdateCount f (kScF G (i + 1))).1 ≠ 0 => ?_) (fun c1221 : (TdateCount f (kScF G (i + 1))).1 = 0 => ?_)
  · skip
    refine k_goto dL_law_1236 (tgt := 2523) rfl ?_
    refine k_forget 6 (k_loc (L' := [some (.ref (kScB G)), some (.ref pl), some (.ref o), some (.ref ol), some (.ref od), some (.int (iI ((i : Nat) : Int))), none, some (.int (iI ((TdateCount f (kScF G (i + 1))).2.1))), none]) rfl ?_)
    refine k_forget 7 (k_loc (L' := [some (.ref (kScB G)), some (.ref pl), some (.ref o), some (.ref ol), some (.ref od), some (.int (iI ((i : Nat) : Int))), none, none, none]) rfl ?_)
    exact k_widen (by omega) (by omega) (IH _ _ _ _ _ _ _ hst9 hco2)
  · skip
    refine k_aload_n (pc1 := 1225) dL_law_1224 rfl rfl ?_
    refine k_iconst (pc1 := 1226) dL_law_1225 rfl ?_
    refine k_lald (i := 0) (pc1 := 1227) dL_law_1226 rfl hst9.2.2.2.1 (by decide) (by decide) (by decide) (k_val (v' := .long (Int32.toInt64 (iI (TdateCount f (kScF G (i + 1))).2.1))) (congrArg Value.long (hX1 (by omega))) ?_)
    refine k_iload (pc1 := 1229) dL_law_1227 rfl rfl ?_
    refine k_i2l (pc1 := 1230) dL_law_1229 rfl ?_
    refine k_lcmpE (pc1 := 1231) dL_law_1230 rfl (by first | rfl | (rw [if_pos (by omega)]; done) | (rw [if_neg (by omega)]; done) | (rw [if_pos (by omega)]; rfl) | (rw [if_neg (by omega)]; rfl)) ?_
    refine k_if_eq (a := 0) dL_law_1231 rfl (tgt := 1236) rfl (by decide) (fun _ => ?_) (fun c => absurd c (by decide))
    refine k_goto dL_law_1236 (tgt := 2523) rfl ?_
    refine k_forget 6 (k_loc (L' := [some (.ref (kScB G)), some (.ref pl), some (.ref o), some (.ref ol), some (.ref od), some (.int (iI ((i : Nat) : Int))), none, some (.int (iI ((TdateCount f (kScF G (i + 1))).2.1))), none]) rfl ?_)
    refine k_forget 7 (k_loc (L' := [some (.ref (kScB G)), some (.ref pl), some (.ref o), some (.ref ol), some (.ref od), some (.int (iI ((i : Nat) : Int))), none, none, none]) rfl ?_)
    exact k_widen (by omega) (by omega) (IH _ _ _ _ _ _ _ hst9 hco2)
theorem lc_dayOf {l : Launch} {G : kG} {h : kAH} (hl : l.stackTraces = false) {pl o g r ol od : Nat} {γ : kGh} {A : kAb} {f : Nat → Int} {c9 : Int} {F9 : Nat → Int64} {D9 : Nat → UInt64} (hq : kLs9 G h pl o g r ol od γ A f c9 F9 D9) (hnx9 : f 2 < 1000000) (hsr : ∀ j : Nat, -2147483648 ≤ kScF G j ∧ kScF G j < 2147483648) {i : Nat} (hi6 : i + 6 ≤ kScL G) (hN9 : kScL G ≤ 1000000) {Φ : Option Value → kAH → Prop} {k n : Nat} (IH : ∀ (h' : kAH) (γ' : kGh) (A' : kAb) (f' : Nat → Int) (c' : Int) (F' : Nat → Int64) (D' : Nat → UInt64), kLs9 G h' pl o g r ol od γ' A' f' c' F' D' → f' 2 ≤ f 2 + 1 → kW l G m_L_law 12 Φ kNo k n 2523 [some (.ref (kScB G)), some (.ref pl), some (.ref o), some (.ref ol), some (.ref od), some (.int (iI ((i : Nat) : Int))), none, none, none] [] h') : kW l G m_L_law 12 Φ kNo (k + 40) (n + 4800) 1239 [some (.ref (kScB G)), some (.ref pl), some (.ref o), some (.ref ol), some (.ref od), some (.int (iI ((i : Nat) : Int))), none, none, none] [] h := by
  have hC := hq.1
  obtain ⟨hco0, hco1, hco2⟩ : kCo f (TdayOf f (kScF G (i + 1)) (kScF G (i + 2))) := co_dayOf (kScF G (i + 1)) (kScF G (i + 2))
  refine k_aload_n (pc1 := 1240) dL_law_1239 rfl rfl ?_
  refine k_aload_n (pc1 := 1241) dL_law_1240 rfl rfl ?_
  refine k_iload (pc1 := 1243) dL_law_1241 rfl rfl ?_
  refine k_iconst (pc1 := 1244) dL_law_1243 rfl ?_
  refine k_iadd (a := ((i : Nat) : Int)) (b := 1) (pc1 := 1245) dL_law_1244 rfl ?_
  refine k_sld (i := (((i : Nat) : Int) + 1)) (pc1 := 1246) dL_law_1245 rfl rfl (by omega) (by omega) hN9 (k_val (v' := .int (iI (kScF G (i + 1)))) (by rw [show ((((i : Nat) : Int) + 1)).toNat = i + 1 by omega]) ?_)
  refine k_aload_n (pc1 := 1247) dL_law_1246 rfl rfl ?_
  refine k_iload (pc1 := 1249) dL_law_1247 rfl rfl ?_
  refine k_iconst (pc1 := 1250) dL_law_1249 rfl ?_
  refine k_iadd (a := ((i : Nat) : Int)) (b := 2) (pc1 := 1251) dL_law_1250 rfl ?_
  refine k_sld (i := (((i : Nat) : Int) + 2)) (pc1 := 1252) dL_law_1251 rfl rfl (by omega) (by omega) hN9 (k_val (v' := .int (iI (kScF G (i + 2)))) (by rw [show ((((i : Nat) : Int) + 2)).toNat = i + 2 by omega]) ?_)
  refine k_aload_n (pc1 := 1253) dL_law_1252 rfl rfl ?_
  refine k_callSX dL_law_1253 rfl rfl lk_RL_196 o_L_dayOf (as := [.ref pl, .int (iI (kScF G (i + 1))), .int (iI (kScF G (i + 2))), .ref ol]) rfl rfl (w_L_dayOf hl hC (hsr _) (hsr _) hq.2.2.2.1 hq.2.2.1.2.2.2.1) (by decide) (by decide) (by omega) (by omega) (k8 rfl) (fun v h1 hv => ?_) (fun E h9 z => z.elim)
  obtain ⟨hv1, ⟨F1, hO1, hX1⟩, γ1, A1, hC1, hO2, hfr1⟩ := hv
  subst hv1
  refine k_st (st' := [.int (iI ((TdayOf f (kScF G (i + 1)) (kScF G (i + 2))).1))]) rfl ?_
  obtain ⟨hM1, ht1, hD1⟩ := l9_call hq hC1 hO1 hO2 hfr1
  refine k_istore (pc1 := 1258) dL_law_1256 rfl (by decide) (k_loc (L' := [some (.ref (kScB G)), some (.ref pl), some (.ref o), some (.ref ol), some (.ref od), some (.int (iI ((i : Nat) : Int))), some (.int (iI ((TdayOf f (kScF G (i + 1)) (kScF G (i + 2))).1))), none, none]) rfl ?_)
  refine k_aload_n (pc1 := 1259) dL_law_1258 rfl rfl ?_
  refine k_aload_n (pc1 := 1260) dL_law_1259 rfl rfl ?_
  refine k_iload (pc1 := 1262) dL_law_1260 rfl rfl ?_
  refine k_iconst (pc1 := 1263) dL_law_1262 rfl ?_
  refine k_iadd (a := ((i : Nat) : Int)) (b := 1) (pc1 := 1264) dL_law_1263 rfl ?_
  refine k_sld (i := (((i : Nat) : Int) + 1)) (pc1 := 1265) dL_law_1264 rfl rfl (by omega) (by omega) hN9 (k_val (v' := .int (iI (kScF G (i + 1)))) (by rw [show ((((i : Nat) : Int) + 1)).toNat = i + 1 by omega]) ?_)
  refine k_aload_n (pc1 := 1266) dL_law_1265 rfl rfl ?_
  refine k_iload (pc1 := 1268) dL_law_1266 rfl rfl ?_
  refine k_iconst (pc1 := 1269) dL_law_1268 rfl ?_
  refine k_iadd (a := ((i : Nat) : Int)) (b := 2) (pc1 := 1270) dL_law_1269 rfl ?_
  refine k_sld (i := (((i : Nat) : Int) + 2)) (pc1 := 1271) dL_law_1270 rfl rfl (by omega) (by omega) hN9 (k_val (v' := .int (iI (kScF G (i + 2)))) (by rw [show ((((i : Nat) : Int) + 2)).toNat = i + 2 by omega]) ?_)
  refine k_callV dL_law_1271 rfl lk_RL_198 o_X6_dayOf (as := [.int (iI (kScF G (i + 1))), .int (iI (kScF G (i + 2)))]) rfl rfl hM1.1 rfl rfl (w_X6_dayOf hl hM1 hC.2.2 (kScF G (i + 1)) (kScF G (i + 2)) (hsr _) (hsr _)) (by decide) (by decide) (Nat.zero_le _) (Nat.zero_le _) (k8 rfl) (fun v h2 hv => ?_) (fun E h9 z => z.elim)
  obtain ⟨hv1, hM2, hF2⟩ := hv
  rw [hv1]
  refine k_st (st' := [.int (iI ((TdayOf f (kScF G (i + 1)) (kScF G (i + 2))).2.1))]) rfl ?_
  have hst9 := l9_ref hC1 hM1 ht1 hO1 hD1 hM2 hF2.w
  refine k_istore (pc1 := 1276) dL_law_1274 rfl (by decide) (k_loc (L' := [some (.ref (kScB G)), some (.ref pl), some (.ref o), some (.ref ol), some (.ref od), some (.int (iI ((i : Nat) : Int))), some (.int (iI ((TdayOf f (kScF G (i + 1)) (kScF G (i + 2))).1))), some (.int (iI ((TdayOf f (kScF G (i + 1)) (kScF G (i + 2))).2.1))), none]) rfl ?_)
  refine k_aload_n (pc1 := 1277) dL_law_1276 rfl rfl ?_
  refine k_callVP dL_law_1277 rfl lk_RL_142 o_X6_thrown (w_thr hl hM2) (as := []) hM2.1 rfl rfl rfl rfl (by decide) (by decide) (k8 rfl) ?_
  refine k_iload (pc1 := 1282) dL_law_1280 rfl rfl ?_
  refine k_icmp_eq (a := (TdayOf f (kScF G (i + 1)) (kScF G (i + 2))).1) (b := (TdayOf f (kScF G (i + 1)) (kScF G (i + 2))).1) dL_law_1282 rfl (tgt := 1287) rfl (by omega) (by omega) (fun _ => ?_) (fun c => absurd rfl c)
  refine k_iload (pc1 := 1289) dL_law_1287 rfl rfl ?_
  refine k_if_ne (a := (TdayOf f (kScF G (i + 1)) (kScF G (i + 2))).1) dL_law_1289 rfl (tgt := 1304) rfl (by omega) (fun c1289 : (TdayOf f (kScF G (i + 1)) (kScF G (i + 2))).1 ≠ 0 => ?_) (fun c1289 : (TdayOf f (kScF G (i + 1)) (kScF G (i + 2))).1 = 0 => ?_)
  · skip
    refine k_goto dL_law_1304 (tgt := 2523) rfl ?_
    refine k_forget 6 (k_loc (L' := [some (.ref (kScB G)), some (.ref pl), some (.ref o), some (.ref ol), some (.ref od), some (.int (iI ((i : Nat) : Int))), none, some (.int (iI ((TdayOf f (kScF G (i + 1)) (kScF G (i + 2))).2.1))), none]) rfl ?_)
    refine k_forget 7 (k_loc (L' := [some (.ref (kScB G)), some (.ref pl), some (.ref o), some (.ref ol), some (.ref od), some (.int (iI ((i : Nat) : Int))), none, none, none]) rfl ?_)
    exact k_widen (by omega) (by omega) (IH _ _ _ _ _ _ _ hst9 hco2)
  · skip
    refine k_aload_n (pc1 := 1293) dL_law_1292 rfl rfl ?_
    refine k_iconst (pc1 := 1294) dL_law_1293 rfl ?_
    refine k_lald (i := 0) (pc1 := 1295) dL_law_1294 rfl hst9.2.2.2.1 (by decide) (by decide) (by decide) (k_val (v' := .long (Int32.toInt64 (iI (TdayOf f (kScF G (i + 1)) (kScF G (i + 2))).2.1))) (congrArg Value.long (hX1 (by omega))) ?_)
    refine k_iload (pc1 := 1297) dL_law_1295 rfl rfl ?_
    refine k_i2l (pc1 := 1298) dL_law_1297 rfl ?_
    refine k_lcmpE (pc1 := 1299) dL_law_1298 rfl (by first | rfl | (rw [if_pos (by omega)]; done) | (rw [if_neg (by omega)]; done) | (rw [if_pos (by omega)]; rfl) | (rw [if_neg (by omega)]; rfl)) ?_
    refine k_if_eq (a := 0) dL_law_1299 rfl (tgt := 1304) rfl (by decide) (fun _ => ?_) (fun c => absurd c (by decide))
    refine k_goto dL_law_1304 (tgt := 2523) rfl ?_
    refine k_forget 6 (k_loc (L' := [some (.ref (kScB G)), some (.ref pl), some (.ref o), some (.ref ol), some (.ref od), some (.int (iI ((i : Nat) : Int))), none, some (.int (iI ((TdayOf f (kScF G (i + 1)) (kScF G (i + 2))).2.1))), none]) rfl ?_)
    refine k_forget 7 (k_loc (L' := [some (.ref (kScB G)), some (.ref pl), some (.ref o), some (.ref ol), some (.ref od), some (.int (iI ((i : Nat) : Int))), none, none, none]) rfl ?_)
    exact k_widen (by omega) (by omega) (IH _ _ _ _ _ _ _ hst9 hco2)
theorem lc_timeOf {l : Launch} {G : kG} {h : kAH} (hl : l.stackTraces = false) {pl o g r ol od : Nat} {γ : kGh} {A : kAb} {f : Nat → Int} {c9 : Int} {F9 : Nat → Int64} {D9 : Nat → UInt64} (hq : kLs9 G h pl o g r ol od γ A f c9 F9 D9) (hnx9 : f 2 < 1000000) (hsr : ∀ j : Nat, -2147483648 ≤ kScF G j ∧ kScF G j < 2147483648) {i : Nat} (hi6 : i + 6 ≤ kScL G) (hN9 : kScL G ≤ 1000000) {Φ : Option Value → kAH → Prop} {k n : Nat} (IH : ∀ (h' : kAH) (γ' : kGh) (A' : kAb) (f' : Nat → Int) (c' : Int) (F' : Nat → Int64) (D' : Nat → UInt64), kLs9 G h' pl o g r ol od γ' A' f' c' F' D' → f' 2 ≤ f 2 + 1 → kW l G m_L_law 12 Φ kNo k n 2523 [some (.ref (kScB G)), some (.ref pl), some (.ref o), some (.ref ol), some (.ref od), some (.int (iI ((i : Nat) : Int))), none, none, none] [] h') : kW l G m_L_law 12 Φ kNo (k + 40) (n + 4800) 1307 [some (.ref (kScB G)), some (.ref pl), some (.ref o), some (.ref ol), some (.ref od), some (.int (iI ((i : Nat) : Int))), none, none, none] [] h := by
  have hC := hq.1
  obtain ⟨hco0, hco1, hco2⟩ : kCo f (TtimeOf f (kScF G (i + 1)) (kScF G (i + 2))) := co_timeOf (kScF G (i + 1)) (kScF G (i + 2))
  refine k_aload_n (pc1 := 1308) dL_law_1307 rfl rfl ?_
  refine k_aload_n (pc1 := 1309) dL_law_1308 rfl rfl ?_
  refine k_iload (pc1 := 1311) dL_law_1309 rfl rfl ?_
  refine k_iconst (pc1 := 1312) dL_law_1311 rfl ?_
  refine k_iadd (a := ((i : Nat) : Int)) (b := 1) (pc1 := 1313) dL_law_1312 rfl ?_
  refine k_sld (i := (((i : Nat) : Int) + 1)) (pc1 := 1314) dL_law_1313 rfl rfl (by omega) (by omega) hN9 (k_val (v' := .int (iI (kScF G (i + 1)))) (by rw [show ((((i : Nat) : Int) + 1)).toNat = i + 1 by omega]) ?_)
  refine k_aload_n (pc1 := 1315) dL_law_1314 rfl rfl ?_
  refine k_iload (pc1 := 1317) dL_law_1315 rfl rfl ?_
  refine k_iconst (pc1 := 1318) dL_law_1317 rfl ?_
  refine k_iadd (a := ((i : Nat) : Int)) (b := 2) (pc1 := 1319) dL_law_1318 rfl ?_
  refine k_sld (i := (((i : Nat) : Int) + 2)) (pc1 := 1320) dL_law_1319 rfl rfl (by omega) (by omega) hN9 (k_val (v' := .int (iI (kScF G (i + 2)))) (by rw [show ((((i : Nat) : Int) + 2)).toNat = i + 2 by omega]) ?_)
  refine k_aload_n (pc1 := 1321) dL_law_1320 rfl rfl ?_
  refine k_callSX dL_law_1321 rfl rfl lk_RL_199 o_L_timeOf (as := [.ref pl, .int (iI (kScF G (i + 1))), .int (iI (kScF G (i + 2))), .ref ol]) rfl rfl (w_L_timeOf hl hC (hsr _) (hsr _) hq.2.2.2.1 hq.2.2.1.2.2.2.1) (by decide) (by decide) (by omega) (by omega) (k8 rfl) (fun v h1 hv => ?_) (fun E h9 z => z.elim)
  obtain ⟨hv1, ⟨F1, hO1, hX1⟩, γ1, A1, hC1, hO2, hfr1⟩ := hv
  subst hv1
  refine k_st (st' := [.int (iI ((TtimeOf f (kScF G (i + 1)) (kScF G (i + 2))).1))]) rfl ?_
  obtain ⟨hM1, ht1, hD1⟩ := l9_call hq hC1 hO1 hO2 hfr1
  refine k_istore (pc1 := 1326) dL_law_1324 rfl (by decide) (k_loc (L' := [some (.ref (kScB G)), some (.ref pl), some (.ref o), some (.ref ol), some (.ref od), some (.int (iI ((i : Nat) : Int))), some (.int (iI ((TtimeOf f (kScF G (i + 1)) (kScF G (i + 2))).1))), none, none]) rfl ?_)
  refine k_aload_n (pc1 := 1327) dL_law_1326 rfl rfl ?_
  refine k_aload_n (pc1 := 1328) dL_law_1327 rfl rfl ?_
  refine k_iload (pc1 := 1330) dL_law_1328 rfl rfl ?_
  refine k_iconst (pc1 := 1331) dL_law_1330 rfl ?_
  refine k_iadd (a := ((i : Nat) : Int)) (b := 1) (pc1 := 1332) dL_law_1331 rfl ?_
  refine k_sld (i := (((i : Nat) : Int) + 1)) (pc1 := 1333) dL_law_1332 rfl rfl (by omega) (by omega) hN9 (k_val (v' := .int (iI (kScF G (i + 1)))) (by rw [show ((((i : Nat) : Int) + 1)).toNat = i + 1 by omega]) ?_)
  refine k_aload_n (pc1 := 1334) dL_law_1333 rfl rfl ?_
  refine k_iload (pc1 := 1336) dL_law_1334 rfl rfl ?_
  refine k_iconst (pc1 := 1337) dL_law_1336 rfl ?_
  refine k_iadd (a := ((i : Nat) : Int)) (b := 2) (pc1 := 1338) dL_law_1337 rfl ?_
  refine k_sld (i := (((i : Nat) : Int) + 2)) (pc1 := 1339) dL_law_1338 rfl rfl (by omega) (by omega) hN9 (k_val (v' := .int (iI (kScF G (i + 2)))) (by rw [show ((((i : Nat) : Int) + 2)).toNat = i + 2 by omega]) ?_)
  refine k_callV dL_law_1339 rfl lk_RL_201 o_X6_timeOf (as := [.int (iI (kScF G (i + 1))), .int (iI (kScF G (i + 2)))]) rfl rfl hM1.1 rfl rfl (w_X6_timeOf hl hM1 hC.2.2 (kScF G (i + 1)) (kScF G (i + 2)) (hsr _) (hsr _)) (by decide) (by decide) (Nat.zero_le _) (Nat.zero_le _) (k8 rfl) (fun v h2 hv => ?_) (fun E h9 z => z.elim)
  obtain ⟨hv1, hM2, hF2⟩ := hv
  rw [hv1]
  refine k_st (st' := [.int (iI ((TtimeOf f (kScF G (i + 1)) (kScF G (i + 2))).2.1))]) rfl ?_
  have hst9 := l9_ref hC1 hM1 ht1 hO1 hD1 hM2 hF2.w
  refine k_istore (pc1 := 1344) dL_law_1342 rfl (by decide) (k_loc (L' := [some (.ref (kScB G)), some (.ref pl), some (.ref o), some (.ref ol), some (.ref od), some (.int (iI ((i : Nat) : Int))), some (.int (iI ((TtimeOf f (kScF G (i + 1)) (kScF G (i + 2))).1))), some (.int (iI ((TtimeOf f (kScF G (i + 1)) (kScF G (i + 2))).2.1))), none]) rfl ?_)
  refine k_aload_n (pc1 := 1345) dL_law_1344 rfl rfl ?_
  refine k_callVP dL_law_1345 rfl lk_RL_142 o_X6_thrown (w_thr hl hM2) (as := []) hM2.1 rfl rfl rfl rfl (by decide) (by decide) (k8 rfl) ?_
  refine k_iload (pc1 := 1350) dL_law_1348 rfl rfl ?_
  refine k_icmp_eq (a := (TtimeOf f (kScF G (i + 1)) (kScF G (i + 2))).1) (b := (TtimeOf f (kScF G (i + 1)) (kScF G (i + 2))).1) dL_law_1350 rfl (tgt := 1355) rfl (by omega) (by omega) (fun _ => ?_) (fun c => absurd rfl c)
  refine k_iload (pc1 := 1357) dL_law_1355 rfl rfl ?_
  refine k_if_ne (a := (TtimeOf f (kScF G (i + 1)) (kScF G (i + 2))).1) dL_law_1357 rfl (tgt := 1372) rfl (by omega) (fun c1357 : (TtimeOf f (kScF G (i + 1)) (kScF G (i + 2))).1 ≠ 0 => ?_) (fun c1357 : (TtimeOf f (kScF G (i + 1)) (kScF G (i + 2))).1 = 0 => ?_)
  · skip
    refine k_goto dL_law_1372 (tgt := 2523) rfl ?_
    refine k_forget 6 (k_loc (L' := [some (.ref (kScB G)), some (.ref pl), some (.ref o), some (.ref ol), some (.ref od), some (.int (iI ((i : Nat) : Int))), none, some (.int (iI ((TtimeOf f (kScF G (i + 1)) (kScF G (i + 2))).2.1))), none]) rfl ?_)
    refine k_forget 7 (k_loc (L' := [some (.ref (kScB G)), some (.ref pl), some (.ref o), some (.ref ol), some (.ref od), some (.int (iI ((i : Nat) : Int))), none, none, none]) rfl ?_)
    exact k_widen (by omega) (by omega) (IH _ _ _ _ _ _ _ hst9 hco2)
  · skip
    refine k_aload_n (pc1 := 1361) dL_law_1360 rfl rfl ?_
    refine k_iconst (pc1 := 1362) dL_law_1361 rfl ?_
    refine k_lald (i := 0) (pc1 := 1363) dL_law_1362 rfl hst9.2.2.2.1 (by decide) (by decide) (by decide) (k_val (v' := .long (Int32.toInt64 (iI (TtimeOf f (kScF G (i + 1)) (kScF G (i + 2))).2.1))) (congrArg Value.long (hX1 (by omega))) ?_)
    refine k_iload (pc1 := 1365) dL_law_1363 rfl rfl ?_
    refine k_i2l (pc1 := 1366) dL_law_1365 rfl ?_
    refine k_lcmpE (pc1 := 1367) dL_law_1366 rfl (by first | rfl | (rw [if_pos (by omega)]; done) | (rw [if_neg (by omega)]; done) | (rw [if_pos (by omega)]; rfl) | (rw [if_neg (by omega)]; rfl)) ?_
    refine k_if_eq (a := 0) dL_law_1367 rfl (tgt := 1372) rfl (by decide) (fun _ => ?_) (fun c => absurd c (by decide))
    refine k_goto dL_law_1372 (tgt := 2523) rfl ?_
    refine k_forget 6 (k_loc (L' := [some (.ref (kScB G)), some (.ref pl), some (.ref o), some (.ref ol), some (.ref od), some (.int (iI ((i : Nat) : Int))), none, some (.int (iI ((TtimeOf f (kScF G (i + 1)) (kScF G (i + 2))).2.1))), none]) rfl ?_)
    refine k_forget 7 (k_loc (L' := [some (.ref (kScB G)), some (.ref pl), some (.ref o), some (.ref ol), some (.ref od), some (.int (iI ((i : Nat) : Int))), none, none, none]) rfl ?_)
    exact k_widen (by omega) (by omega) (IH _ _ _ _ _ _ _ hst9 hco2)
theorem lc_isCancelled {l : Launch} {G : kG} {h : kAH} (hl : l.stackTraces = false) {pl o g r ol od : Nat} {γ : kGh} {A : kAb} {f : Nat → Int} {c9 : Int} {F9 : Nat → Int64} {D9 : Nat → UInt64} (hq : kLs9 G h pl o g r ol od γ A f c9 F9 D9) (hnx9 : f 2 < 1000000) (hsr : ∀ j : Nat, -2147483648 ≤ kScF G j ∧ kScF G j < 2147483648) {i : Nat} (hi6 : i + 6 ≤ kScL G) (hN9 : kScL G ≤ 1000000) {Φ : Option Value → kAH → Prop} {k n : Nat} (IH : ∀ (h' : kAH) (γ' : kGh) (A' : kAb) (f' : Nat → Int) (c' : Int) (F' : Nat → Int64) (D' : Nat → UInt64), kLs9 G h' pl o g r ol od γ' A' f' c' F' D' → f' 2 ≤ f 2 + 1 → kW l G m_L_law 12 Φ kNo k n 2523 [some (.ref (kScB G)), some (.ref pl), some (.ref o), some (.ref ol), some (.ref od), some (.int (iI ((i : Nat) : Int))), none, none, none] [] h') : kW l G m_L_law 12 Φ kNo (k + 40) (n + 4800) 1375 [some (.ref (kScB G)), some (.ref pl), some (.ref o), some (.ref ol), some (.ref od), some (.int (iI ((i : Nat) : Int))), none, none, none] [] h := by
  have hC := hq.1
  obtain ⟨hco0, hco1, hco2⟩ : kCo f (TisCancelled f (kScF G (i + 1)) (kScF G (i + 2))) := co_isCancelled (kScF G (i + 1)) (kScF G (i + 2))
  have hbo := bo_isCancelled (f := f) (kScF G (i + 1)) (kScF G (i + 2))
  refine k_aload_n (pc1 := 1376) dL_law_1375 rfl rfl ?_
  refine k_aload_n (pc1 := 1377) dL_law_1376 rfl rfl ?_
  refine k_iload (pc1 := 1379) dL_law_1377 rfl rfl ?_
  refine k_iconst (pc1 := 1380) dL_law_1379 rfl ?_
  refine k_iadd (a := ((i : Nat) : Int)) (b := 1) (pc1 := 1381) dL_law_1380 rfl ?_
  refine k_sld (i := (((i : Nat) : Int) + 1)) (pc1 := 1382) dL_law_1381 rfl rfl (by omega) (by omega) hN9 (k_val (v' := .int (iI (kScF G (i + 1)))) (by rw [show ((((i : Nat) : Int) + 1)).toNat = i + 1 by omega]) ?_)
  refine k_aload_n (pc1 := 1383) dL_law_1382 rfl rfl ?_
  refine k_iload (pc1 := 1385) dL_law_1383 rfl rfl ?_
  refine k_iconst (pc1 := 1386) dL_law_1385 rfl ?_
  refine k_iadd (a := ((i : Nat) : Int)) (b := 2) (pc1 := 1387) dL_law_1386 rfl ?_
  refine k_sld (i := (((i : Nat) : Int) + 2)) (pc1 := 1388) dL_law_1387 rfl rfl (by omega) (by omega) hN9 (k_val (v' := .int (iI (kScF G (i + 2)))) (by rw [show ((((i : Nat) : Int) + 2)).toNat = i + 2 by omega]) ?_)
  refine k_aload_n (pc1 := 1389) dL_law_1388 rfl rfl ?_
  refine k_callSX dL_law_1389 rfl rfl lk_RL_202 o_L_isCancelled (as := [.ref pl, .int (iI (kScF G (i + 1))), .int (iI (kScF G (i + 2))), .ref ol]) rfl rfl (w_L_isCancelled hl hC (hsr _) (hsr _) hq.2.2.2.1 hq.2.2.1.2.2.2.1) (by decide) (by decide) (by omega) (by omega) (k8 rfl) (fun v h1 hv => ?_) (fun E h9 z => z.elim)
  obtain ⟨hv1, ⟨F1, hO1, hX1⟩, γ1, A1, hC1, hO2, hfr1⟩ := hv
  subst hv1
  refine k_st (st' := [.int (iI ((TisCancelled f (kScF G (i + 1)) (kScF G (i + 2))).1))]) rfl ?_
  obtain ⟨hM1, ht1, hD1⟩ := l9_call hq hC1 hO1 hO2 hfr1
  refine k_istore (pc1 := 1394) dL_law_1392 rfl (by decide) (k_loc (L' := [some (.ref (kScB G)), some (.ref pl), some (.ref o), some (.ref ol), some (.ref od), some (.int (iI ((i : Nat) : Int))), some (.int (iI ((TisCancelled f (kScF G (i + 1)) (kScF G (i + 2))).1))), none, none]) rfl ?_)
  refine k_aload_n (pc1 := 1395) dL_law_1394 rfl rfl ?_
  refine k_aload_n (pc1 := 1396) dL_law_1395 rfl rfl ?_
  refine k_iload (pc1 := 1398) dL_law_1396 rfl rfl ?_
  refine k_iconst (pc1 := 1399) dL_law_1398 rfl ?_
  refine k_iadd (a := ((i : Nat) : Int)) (b := 1) (pc1 := 1400) dL_law_1399 rfl ?_
  refine k_sld (i := (((i : Nat) : Int) + 1)) (pc1 := 1401) dL_law_1400 rfl rfl (by omega) (by omega) hN9 (k_val (v' := .int (iI (kScF G (i + 1)))) (by rw [show ((((i : Nat) : Int) + 1)).toNat = i + 1 by omega]) ?_)
  refine k_aload_n (pc1 := 1402) dL_law_1401 rfl rfl ?_
  refine k_iload (pc1 := 1404) dL_law_1402 rfl rfl ?_
  refine k_iconst (pc1 := 1405) dL_law_1404 rfl ?_
  refine k_iadd (a := ((i : Nat) : Int)) (b := 2) (pc1 := 1406) dL_law_1405 rfl ?_
  refine k_sld (i := (((i : Nat) : Int) + 2)) (pc1 := 1407) dL_law_1406 rfl rfl (by omega) (by omega) hN9 (k_val (v' := .int (iI (kScF G (i + 2)))) (by rw [show ((((i : Nat) : Int) + 2)).toNat = i + 2 by omega]) ?_)
  refine k_callV dL_law_1407 rfl lk_RL_204 o_X6_isCancelled (as := [.int (iI (kScF G (i + 1))), .int (iI (kScF G (i + 2)))]) rfl rfl hM1.1 rfl rfl (w_X6_isCancelled hl hM1 hC.2.2 (kScF G (i + 1)) (kScF G (i + 2)) (hsr _) (hsr _)) (by decide) (by decide) (Nat.zero_le _) (Nat.zero_le _) (k8 rfl) (fun v h2 hv => ?_) (fun E h9 z => z.elim)
  obtain ⟨hv1, hM2, hF2⟩ := hv
  rw [hv1]
  refine k_st (st' := [.int (iI ((TisCancelled f (kScF G (i + 1)) (kScF G (i + 2))).2.1))]) rfl ?_
  have hst9 := l9_ref hC1 hM1 ht1 hO1 hD1 hM2 hF2.w
  refine k_istore (pc1 := 1412) dL_law_1410 rfl (by decide) (k_loc (L' := [some (.ref (kScB G)), some (.ref pl), some (.ref o), some (.ref ol), some (.ref od), some (.int (iI ((i : Nat) : Int))), some (.int (iI ((TisCancelled f (kScF G (i + 1)) (kScF G (i + 2))).1))), some (.int (iI ((TisCancelled f (kScF G (i + 1)) (kScF G (i + 2))).2.1))), none]) rfl ?_)
  refine k_aload_n (pc1 := 1413) dL_law_1412 rfl rfl ?_
  refine k_callVP dL_law_1413 rfl lk_RL_142 o_X6_thrown (w_thr hl hM2) (as := []) hM2.1 rfl rfl rfl rfl (by decide) (by decide) (k8 rfl) ?_
  refine k_iload (pc1 := 1418) dL_law_1416 rfl rfl ?_
  refine k_icmp_eq (a := (TisCancelled f (kScF G (i + 1)) (kScF G (i + 2))).1) (b := (TisCancelled f (kScF G (i + 1)) (kScF G (i + 2))).1) dL_law_1418 rfl (tgt := 1423) rfl (by omega) (by omega) (fun _ => ?_) (fun c => absurd rfl c)
  refine k_iload (pc1 := 1425) dL_law_1423 rfl rfl ?_
  refine k_if_ne (a := (TisCancelled f (kScF G (i + 1)) (kScF G (i + 2))).1) dL_law_1425 rfl (tgt := 1447) rfl (by omega) (fun c1425 : (TisCancelled f (kScF G (i + 1)) (kScF G (i + 2))).1 ≠ 0 => ?_) (fun c1425 : (TisCancelled f (kScF G (i + 1)) (kScF G (i + 2))).1 = 0 => ?_)
  · skip
    refine k_goto dL_law_1447 (tgt := 2523) rfl ?_
    refine k_forget 6 (k_loc (L' := [some (.ref (kScB G)), some (.ref pl), some (.ref o), some (.ref ol), some (.ref od), some (.int (iI ((i : Nat) : Int))), none, some (.int (iI ((TisCancelled f (kScF G (i + 1)) (kScF G (i + 2))).2.1))), none]) rfl ?_)
    refine k_forget 7 (k_loc (L' := [some (.ref (kScB G)), some (.ref pl), some (.ref o), some (.ref ol), some (.ref od), some (.int (iI ((i : Nat) : Int))), none, none, none]) rfl ?_)
    exact k_widen (by omega) (by omega) (IH _ _ _ _ _ _ _ hst9 hco2)
  · skip
    refine k_aload_n (pc1 := 1429) dL_law_1428 rfl rfl ?_
    refine k_iconst (pc1 := 1430) dL_law_1429 rfl ?_
    refine k_lald (i := 0) (pc1 := 1431) dL_law_1430 rfl hst9.2.2.2.1 (by decide) (by decide) (by decide) (k_val (v' := .long (Int64.ofNat (if (TisCancelled f (kScF G (i + 1)) (kScF G (i + 2))).2.1 = 0 then 0 else 1))) (congrArg Value.long (hX1 (by omega))) ?_)
    refine k_iload (pc1 := 1433) dL_law_1431 rfl rfl ?_
    refine k_if_eq (a := (TisCancelled f (kScF G (i + 1)) (kScF G (i + 2))).2.1) dL_law_1433 rfl (tgt := 1440) rfl (by omega) (fun c1433 : (TisCancelled f (kScF G (i + 1)) (kScF G (i + 2))).2.1 = 0 => ?_) (fun c1433 : (TisCancelled f (kScF G (i + 1)) (kScF G (i + 2))).2.1 ≠ 0 => ?_)
    · skip
      refine k_lconst (pc1 := 1441) dL_law_1440 rfl ?_
      refine k_lcmpE (pc1 := 1442) dL_law_1441 rfl (by first | rfl | (rw [if_pos (by omega)]; done) | (rw [if_neg (by omega)]; done) | (rw [if_pos (by omega)]; rfl) | (rw [if_neg (by omega)]; rfl)) ?_
      refine k_if_eq (a := 0) dL_law_1442 rfl (tgt := 1447) rfl (by decide) (fun _ => ?_) (fun c => absurd c (by decide))
      refine k_goto dL_law_1447 (tgt := 2523) rfl ?_
      refine k_forget 6 (k_loc (L' := [some (.ref (kScB G)), some (.ref pl), some (.ref o), some (.ref ol), some (.ref od), some (.int (iI ((i : Nat) : Int))), none, some (.int (iI ((TisCancelled f (kScF G (i + 1)) (kScF G (i + 2))).2.1))), none]) rfl ?_)
      refine k_forget 7 (k_loc (L' := [some (.ref (kScB G)), some (.ref pl), some (.ref o), some (.ref ol), some (.ref od), some (.int (iI ((i : Nat) : Int))), none, none, none]) rfl ?_)
      exact k_widen (by omega) (by omega) (IH _ _ _ _ _ _ _ hst9 hco2)
    · skip
      refine k_lconst (pc1 := 1437) dL_law_1436 rfl ?_
      refine k_goto dL_law_1437 (tgt := 1441) rfl ?_
      refine k_lcmpE (pc1 := 1442) dL_law_1441 rfl (by first | rfl | (rw [if_pos (by omega)]; done) | (rw [if_neg (by omega)]; done) | (rw [if_pos (by omega)]; rfl) | (rw [if_neg (by omega)]; rfl)) ?_
      refine k_if_eq (a := 0) dL_law_1442 rfl (tgt := 1447) rfl (by decide) (fun _ => ?_) (fun c => absurd c (by decide))
      refine k_goto dL_law_1447 (tgt := 2523) rfl ?_
      refine k_forget 6 (k_loc (L' := [some (.ref (kScB G)), some (.ref pl), some (.ref o), some (.ref ol), some (.ref od), some (.int (iI ((i : Nat) : Int))), none, some (.int (iI ((TisCancelled f (kScF G (i + 1)) (kScF G (i + 2))).2.1))), none]) rfl ?_)
      refine k_forget 7 (k_loc (L' := [some (.ref (kScB G)), some (.ref pl), some (.ref o), some (.ref ol), some (.ref od), some (.int (iI ((i : Nat) : Int))), none, none, none]) rfl ?_)
      exact k_widen (by omega) (by omega) (IH _ _ _ _ _ _ _ hst9 hco2)
theorem lc_roomOf {l : Launch} {G : kG} {h : kAH} (hl : l.stackTraces = false) {pl o g r ol od : Nat} {γ : kGh} {A : kAb} {f : Nat → Int} {c9 : Int} {F9 : Nat → Int64} {D9 : Nat → UInt64} (hq : kLs9 G h pl o g r ol od γ A f c9 F9 D9) (hnx9 : f 2 < 1000000) (hsr : ∀ j : Nat, -2147483648 ≤ kScF G j ∧ kScF G j < 2147483648) {i : Nat} (hi6 : i + 6 ≤ kScL G) (hN9 : kScL G ≤ 1000000) {Φ : Option Value → kAH → Prop} {k n : Nat} (IH : ∀ (h' : kAH) (γ' : kGh) (A' : kAb) (f' : Nat → Int) (c' : Int) (F' : Nat → Int64) (D' : Nat → UInt64), kLs9 G h' pl o g r ol od γ' A' f' c' F' D' → f' 2 ≤ f 2 + 1 → kW l G m_L_law 12 Φ kNo k n 2523 [some (.ref (kScB G)), some (.ref pl), some (.ref o), some (.ref ol), some (.ref od), some (.int (iI ((i : Nat) : Int))), none, none, none] [] h') : kW l G m_L_law 12 Φ kNo (k + 40) (n + 4800) 1450 [some (.ref (kScB G)), some (.ref pl), some (.ref o), some (.ref ol), some (.ref od), some (.int (iI ((i : Nat) : Int))), none, none, none] [] h := by
  have hC := hq.1
  obtain ⟨hco0, hco1, hco2⟩ : kCo f (TroomOf f (kScF G (i + 1)) (kScF G (i + 2))) := co_roomOf (kScF G (i + 1)) (kScF G (i + 2))
  refine k_aload_n (pc1 := 1451) dL_law_1450 rfl rfl ?_
  refine k_aload_n (pc1 := 1452) dL_law_1451 rfl rfl ?_
  refine k_iload (pc1 := 1454) dL_law_1452 rfl rfl ?_
  refine k_iconst (pc1 := 1455) dL_law_1454 rfl ?_
  refine k_iadd (a := ((i : Nat) : Int)) (b := 1) (pc1 := 1456) dL_law_1455 rfl ?_
  refine k_sld (i := (((i : Nat) : Int) + 1)) (pc1 := 1457) dL_law_1456 rfl rfl (by omega) (by omega) hN9 (k_val (v' := .int (iI (kScF G (i + 1)))) (by rw [show ((((i : Nat) : Int) + 1)).toNat = i + 1 by omega]) ?_)
  refine k_aload_n (pc1 := 1458) dL_law_1457 rfl rfl ?_
  refine k_iload (pc1 := 1460) dL_law_1458 rfl rfl ?_
  refine k_iconst (pc1 := 1461) dL_law_1460 rfl ?_
  refine k_iadd (a := ((i : Nat) : Int)) (b := 2) (pc1 := 1462) dL_law_1461 rfl ?_
  refine k_sld (i := (((i : Nat) : Int) + 2)) (pc1 := 1463) dL_law_1462 rfl rfl (by omega) (by omega) hN9 (k_val (v' := .int (iI (kScF G (i + 2)))) (by rw [show ((((i : Nat) : Int) + 2)).toNat = i + 2 by omega]) ?_)
  refine k_aload_n (pc1 := 1464) dL_law_1463 rfl rfl ?_
  refine k_callSX dL_law_1464 rfl rfl lk_RL_205 o_L_roomOf (as := [.ref pl, .int (iI (kScF G (i + 1))), .int (iI (kScF G (i + 2))), .ref ol]) rfl rfl (w_L_roomOf hl hC (hsr _) (hsr _) hq.2.2.2.1 hq.2.2.1.2.2.2.1) (by decide) (by decide) (by omega) (by omega) (k8 rfl) (fun v h1 hv => ?_) (fun E h9 z => z.elim)
  obtain ⟨hv1, ⟨F1, hO1, hX1⟩, γ1, A1, hC1, hO2, hfr1⟩ := hv
  subst hv1
  refine k_st (st' := [.int (iI ((TroomOf f (kScF G (i + 1)) (kScF G (i + 2))).1))]) rfl ?_
  obtain ⟨hM1, ht1, hD1⟩ := l9_call hq hC1 hO1 hO2 hfr1
  refine k_istore (pc1 := 1469) dL_law_1467 rfl (by decide) (k_loc (L' := [some (.ref (kScB G)), some (.ref pl), some (.ref o), some (.ref ol), some (.ref od), some (.int (iI ((i : Nat) : Int))), some (.int (iI ((TroomOf f (kScF G (i + 1)) (kScF G (i + 2))).1))), none, none]) rfl ?_)
  refine k_aload_n (pc1 := 1470) dL_law_1469 rfl rfl ?_
  refine k_aload_n (pc1 := 1471) dL_law_1470 rfl rfl ?_
  refine k_iload (pc1 := 1473) dL_law_1471 rfl rfl ?_
  refine k_iconst (pc1 := 1474) dL_law_1473 rfl ?_
  refine k_iadd (a := ((i : Nat) : Int)) (b := 1) (pc1 := 1475) dL_law_1474 rfl ?_
  refine k_sld (i := (((i : Nat) : Int) + 1)) (pc1 := 1476) dL_law_1475 rfl rfl (by omega) (by omega) hN9 (k_val (v' := .int (iI (kScF G (i + 1)))) (by rw [show ((((i : Nat) : Int) + 1)).toNat = i + 1 by omega]) ?_)
  refine k_aload_n (pc1 := 1477) dL_law_1476 rfl rfl ?_
  refine k_iload (pc1 := 1479) dL_law_1477 rfl rfl ?_
  refine k_iconst (pc1 := 1480) dL_law_1479 rfl ?_
  refine k_iadd (a := ((i : Nat) : Int)) (b := 2) (pc1 := 1481) dL_law_1480 rfl ?_
  refine k_sld (i := (((i : Nat) : Int) + 2)) (pc1 := 1482) dL_law_1481 rfl rfl (by omega) (by omega) hN9 (k_val (v' := .int (iI (kScF G (i + 2)))) (by rw [show ((((i : Nat) : Int) + 2)).toNat = i + 2 by omega]) ?_)
  refine k_callV dL_law_1482 rfl lk_RL_207 o_X6_roomOf (as := [.int (iI (kScF G (i + 1))), .int (iI (kScF G (i + 2)))]) rfl rfl hM1.1 rfl rfl (w_X6_roomOf hl hM1 hC.2.2 (kScF G (i + 1)) (kScF G (i + 2)) (hsr _) (hsr _)) (by decide) (by decide) (Nat.zero_le _) (Nat.zero_le _) (k8 rfl) (fun v h2 hv => ?_) (fun E h9 z => z.elim)
  obtain ⟨hv1, hM2, hF2⟩ := hv
  rw [hv1]
  refine k_st (st' := [.int (iI ((TroomOf f (kScF G (i + 1)) (kScF G (i + 2))).2.1))]) rfl ?_
  have hst9 := l9_ref hC1 hM1 ht1 hO1 hD1 hM2 hF2.w
  refine k_istore (pc1 := 1487) dL_law_1485 rfl (by decide) (k_loc (L' := [some (.ref (kScB G)), some (.ref pl), some (.ref o), some (.ref ol), some (.ref od), some (.int (iI ((i : Nat) : Int))), some (.int (iI ((TroomOf f (kScF G (i + 1)) (kScF G (i + 2))).1))), some (.int (iI ((TroomOf f (kScF G (i + 1)) (kScF G (i + 2))).2.1))), none]) rfl ?_)
  refine k_aload_n (pc1 := 1488) dL_law_1487 rfl rfl ?_
  refine k_callVP dL_law_1488 rfl lk_RL_142 o_X6_thrown (w_thr hl hM2) (as := []) hM2.1 rfl rfl rfl rfl (by decide) (by decide) (k8 rfl) ?_
  refine k_iload (pc1 := 1493) dL_law_1491 rfl rfl ?_
  refine k_icmp_eq (a := (TroomOf f (kScF G (i + 1)) (kScF G (i + 2))).1) (b := (TroomOf f (kScF G (i + 1)) (kScF G (i + 2))).1) dL_law_1493 rfl (tgt := 1498) rfl (by omega) (by omega) (fun _ => ?_) (fun c => absurd rfl c)
  refine k_iload (pc1 := 1500) dL_law_1498 rfl rfl ?_
  refine k_if_ne (a := (TroomOf f (kScF G (i + 1)) (kScF G (i + 2))).1) dL_law_1500 rfl (tgt := 1515) rfl (by omega) (fun c1500 : (TroomOf f (kScF G (i + 1)) (kScF G (i + 2))).1 ≠ 0 => ?_) (fun c1500 : (TroomOf f (kScF G (i + 1)) (kScF G (i + 2))).1 = 0 => ?_)
  · skip
    refine k_goto dL_law_1515 (tgt := 2523) rfl ?_
    refine k_forget 6 (k_loc (L' := [some (.ref (kScB G)), some (.ref pl), some (.ref o), some (.ref ol), some (.ref od), some (.int (iI ((i : Nat) : Int))), none, some (.int (iI ((TroomOf f (kScF G (i + 1)) (kScF G (i + 2))).2.1))), none]) rfl ?_)
    refine k_forget 7 (k_loc (L' := [some (.ref (kScB G)), some (.ref pl), some (.ref o), some (.ref ol), some (.ref od), some (.int (iI ((i : Nat) : Int))), none, none, none]) rfl ?_)
    exact k_widen (by omega) (by omega) (IH _ _ _ _ _ _ _ hst9 hco2)
  · skip
    refine k_aload_n (pc1 := 1504) dL_law_1503 rfl rfl ?_
    refine k_iconst (pc1 := 1505) dL_law_1504 rfl ?_
    refine k_lald (i := 0) (pc1 := 1506) dL_law_1505 rfl hst9.2.2.2.1 (by decide) (by decide) (by decide) (k_val (v' := .long (Int32.toInt64 (iI (TroomOf f (kScF G (i + 1)) (kScF G (i + 2))).2.1))) (congrArg Value.long (hX1 (by omega))) ?_)
    refine k_iload (pc1 := 1508) dL_law_1506 rfl rfl ?_
    refine k_i2l (pc1 := 1509) dL_law_1508 rfl ?_
    refine k_lcmpE (pc1 := 1510) dL_law_1509 rfl (by first | rfl | (rw [if_pos (by omega)]; done) | (rw [if_neg (by omega)]; done) | (rw [if_pos (by omega)]; rfl) | (rw [if_neg (by omega)]; rfl)) ?_
    refine k_if_eq (a := 0) dL_law_1510 rfl (tgt := 1515) rfl (by decide) (fun _ => ?_) (fun c => absurd c (by decide))
    refine k_goto dL_law_1515 (tgt := 2523) rfl ?_
    refine k_forget 6 (k_loc (L' := [some (.ref (kScB G)), some (.ref pl), some (.ref o), some (.ref ol), some (.ref od), some (.int (iI ((i : Nat) : Int))), none, some (.int (iI ((TroomOf f (kScF G (i + 1)) (kScF G (i + 2))).2.1))), none]) rfl ?_)
    refine k_forget 7 (k_loc (L' := [some (.ref (kScB G)), some (.ref pl), some (.ref o), some (.ref ol), some (.ref od), some (.int (iI ((i : Nat) : Int))), none, none, none]) rfl ?_)
    exact k_widen (by omega) (by omega) (IH _ _ _ _ _ _ _ hst9 hco2)
theorem lc_refusalReason {l : Launch} {G : kG} {h : kAH} (hl : l.stackTraces = false) {pl o g r ol od : Nat} {γ : kGh} {A : kAb} {f : Nat → Int} {c9 : Int} {F9 : Nat → Int64} {D9 : Nat → UInt64} (hq : kLs9 G h pl o g r ol od γ A f c9 F9 D9) (hnx9 : f 2 < 1000000) (hsr : ∀ j : Nat, -2147483648 ≤ kScF G j ∧ kScF G j < 2147483648) {i : Nat} (hi6 : i + 6 ≤ kScL G) (hN9 : kScL G ≤ 1000000) {Φ : Option Value → kAH → Prop} {k n : Nat} (IH : ∀ (h' : kAH) (γ' : kGh) (A' : kAb) (f' : Nat → Int) (c' : Int) (F' : Nat → Int64) (D' : Nat → UInt64), kLs9 G h' pl o g r ol od γ' A' f' c' F' D' → f' 2 ≤ f 2 + 1 → kW l G m_L_law 12 Φ kNo k n 2523 [some (.ref (kScB G)), some (.ref pl), some (.ref o), some (.ref ol), some (.ref od), some (.int (iI ((i : Nat) : Int))), none, none, none] [] h') : kW l G m_L_law 12 Φ kNo (k + 40) (n + 4800) 1518 [some (.ref (kScB G)), some (.ref pl), some (.ref o), some (.ref ol), some (.ref od), some (.int (iI ((i : Nat) : Int))), none, none, none] [] h := by
  have hC := hq.1
  obtain ⟨hco0, hco1, hco2⟩ : kCo f (TrefusalReason f) := co_refusalReason (f := f)
  refine k_aload_n (pc1 := 1519) dL_law_1518 rfl rfl ?_
  refine k_aload_n (pc1 := 1520) dL_law_1519 rfl rfl ?_
  refine k_callSX dL_law_1520 rfl rfl lk_RL_208 o_L_refusalReason (as := [.ref pl, .ref ol]) rfl rfl (w_L_refusalReason hl hC hq.2.2.2.1 hq.2.2.1.2.2.2.1) (by decide) (by decide) (by omega) (by omega) (k8 rfl) (fun v h1 hv => ?_) (fun E h9 z => z.elim)
  obtain ⟨hv1, ⟨F1, hO1, hX1⟩, γ1, A1, hC1, hO2, hfr1⟩ := hv
  subst hv1
  refine k_st (st' := [.int (iI ((TrefusalReason f).1))]) rfl ?_
  obtain ⟨hM1, ht1, hD1⟩ := l9_call hq hC1 hO1 hO2 hfr1
  refine k_istore (pc1 := 1525) dL_law_1523 rfl (by decide) (k_loc (L' := [some (.ref (kScB G)), some (.ref pl), some (.ref o), some (.ref ol), some (.ref od), some (.int (iI ((i : Nat) : Int))), some (.int (iI ((TrefusalReason f).1))), none, none]) rfl ?_)
  refine k_aload_n (pc1 := 1526) dL_law_1525 rfl rfl ?_
  refine k_callV dL_law_1526 rfl lk_RL_211 o_X6_refusalReason (as := []) rfl rfl hM1.1 rfl rfl (w_X6_refusalReason hl hM1 hC.2.2 ) (by decide) (by decide) (Nat.zero_le _) (Nat.zero_le _) (k8 rfl) (fun v h2 hv => ?_) (fun E h9 z => z.elim)
  obtain ⟨hv1, hM2, hF2⟩ := hv
  rw [hv1]
  refine k_st (st' := [.int (iI ((TrefusalReason f).2.1))]) rfl ?_
  have hst9 := l9_ref hC1 hM1 ht1 hO1 hD1 hM2 hF2.w
  refine k_istore (pc1 := 1531) dL_law_1529 rfl (by decide) (k_loc (L' := [some (.ref (kScB G)), some (.ref pl), some (.ref o), some (.ref ol), some (.ref od), some (.int (iI ((i : Nat) : Int))), some (.int (iI ((TrefusalReason f).1))), some (.int (iI ((TrefusalReason f).2.1))), none]) rfl ?_)
  refine k_aload_n (pc1 := 1532) dL_law_1531 rfl rfl ?_
  refine k_callVP dL_law_1532 rfl lk_RL_142 o_X6_thrown (w_thr hl hM2) (as := []) hM2.1 rfl rfl rfl rfl (by decide) (by decide) (k8 rfl) ?_
  refine k_iload (pc1 := 1537) dL_law_1535 rfl rfl ?_
  refine k_icmp_eq (a := (TrefusalReason f).1) (b := (TrefusalReason f).1) dL_law_1537 rfl (tgt := 1542) rfl (by omega) (by omega) (fun _ => ?_) (fun c => absurd rfl c)
  refine k_iload (pc1 := 1544) dL_law_1542 rfl rfl ?_
  refine k_if_ne (a := (TrefusalReason f).1) dL_law_1544 rfl (tgt := 1559) rfl (by omega) (fun c1544 : (TrefusalReason f).1 ≠ 0 => ?_) (fun c1544 : (TrefusalReason f).1 = 0 => ?_)
  · skip
    refine k_goto dL_law_1559 (tgt := 2523) rfl ?_
    refine k_forget 6 (k_loc (L' := [some (.ref (kScB G)), some (.ref pl), some (.ref o), some (.ref ol), some (.ref od), some (.int (iI ((i : Nat) : Int))), none, some (.int (iI ((TrefusalReason f).2.1))), none]) rfl ?_)
    refine k_forget 7 (k_loc (L' := [some (.ref (kScB G)), some (.ref pl), some (.ref o), some (.ref ol), some (.ref od), some (.int (iI ((i : Nat) : Int))), none, none, none]) rfl ?_)
    exact k_widen (by omega) (by omega) (IH _ _ _ _ _ _ _ hst9 hco2)
  · skip
    refine k_aload_n (pc1 := 1548) dL_law_1547 rfl rfl ?_
    refine k_iconst (pc1 := 1549) dL_law_1548 rfl ?_
    refine k_lald (i := 0) (pc1 := 1550) dL_law_1549 rfl hst9.2.2.2.1 (by decide) (by decide) (by decide) (k_val (v' := .long (Int32.toInt64 (iI (TrefusalReason f).2.1))) (congrArg Value.long (hX1 (by omega))) ?_)
    refine k_iload (pc1 := 1552) dL_law_1550 rfl rfl ?_
    refine k_i2l (pc1 := 1553) dL_law_1552 rfl ?_
    refine k_lcmpE (pc1 := 1554) dL_law_1553 rfl (by first | rfl | (rw [if_pos (by omega)]; done) | (rw [if_neg (by omega)]; done) | (rw [if_pos (by omega)]; rfl) | (rw [if_neg (by omega)]; rfl)) ?_
    refine k_if_eq (a := 0) dL_law_1554 rfl (tgt := 1559) rfl (by decide) (fun _ => ?_) (fun c => absurd c (by decide))
    refine k_goto dL_law_1559 (tgt := 2523) rfl ?_
    refine k_forget 6 (k_loc (L' := [some (.ref (kScB G)), some (.ref pl), some (.ref o), some (.ref ol), some (.ref od), some (.int (iI ((i : Nat) : Int))), none, some (.int (iI ((TrefusalReason f).2.1))), none]) rfl ?_)
    refine k_forget 7 (k_loc (L' := [some (.ref (kScB G)), some (.ref pl), some (.ref o), some (.ref ol), some (.ref od), some (.int (iI ((i : Nat) : Int))), none, none, none]) rfl ?_)
    exact k_widen (by omega) (by omega) (IH _ _ _ _ _ _ _ hst9 hco2)
theorem lc_refusalDetail {l : Launch} {G : kG} {h : kAH} (hl : l.stackTraces = false) {pl o g r ol od : Nat} {γ : kGh} {A : kAb} {f : Nat → Int} {c9 : Int} {F9 : Nat → Int64} {D9 : Nat → UInt64} (hq : kLs9 G h pl o g r ol od γ A f c9 F9 D9) (hnx9 : f 2 < 1000000) (hsr : ∀ j : Nat, -2147483648 ≤ kScF G j ∧ kScF G j < 2147483648) {i : Nat} (hi6 : i + 6 ≤ kScL G) (hN9 : kScL G ≤ 1000000) {Φ : Option Value → kAH → Prop} {k n : Nat} (IH : ∀ (h' : kAH) (γ' : kGh) (A' : kAb) (f' : Nat → Int) (c' : Int) (F' : Nat → Int64) (D' : Nat → UInt64), kLs9 G h' pl o g r ol od γ' A' f' c' F' D' → f' 2 ≤ f 2 + 1 → kW l G m_L_law 12 Φ kNo k n 2523 [some (.ref (kScB G)), some (.ref pl), some (.ref o), some (.ref ol), some (.ref od), some (.int (iI ((i : Nat) : Int))), none, none, none] [] h') : kW l G m_L_law 12 Φ kNo (k + 40) (n + 4800) 1562 [some (.ref (kScB G)), some (.ref pl), some (.ref o), some (.ref ol), some (.ref od), some (.int (iI ((i : Nat) : Int))), none, none, none] [] h := by
  have hC := hq.1
  obtain ⟨hco0, hco1, hco2⟩ : kCo f (TrefusalDetail f) := co_refusalDetail (f := f)
  refine k_aload_n (pc1 := 1563) dL_law_1562 rfl rfl ?_
  refine k_aload_n (pc1 := 1564) dL_law_1563 rfl rfl ?_
  refine k_callSX dL_law_1564 rfl rfl lk_RL_212 o_L_refusalDetail (as := [.ref pl, .ref ol]) rfl rfl (w_L_refusalDetail hl hC hq.2.2.2.1 hq.2.2.1.2.2.2.1) (by decide) (by decide) (by omega) (by omega) (k8 rfl) (fun v h1 hv => ?_) (fun E h9 z => z.elim)
  obtain ⟨hv1, ⟨F1, hO1, hX1⟩, γ1, A1, hC1, hO2, hfr1⟩ := hv
  subst hv1
  refine k_st (st' := [.int (iI ((TrefusalDetail f).1))]) rfl ?_
  obtain ⟨hM1, ht1, hD1⟩ := l9_call hq hC1 hO1 hO2 hfr1
  refine k_istore (pc1 := 1569) dL_law_1567 rfl (by decide) (k_loc (L' := [some (.ref (kScB G)), some (.ref pl), some (.ref o), some (.ref ol), some (.ref od), some (.int (iI ((i : Nat) : Int))), some (.int (iI ((TrefusalDetail f).1))), none, none]) rfl ?_)
  refine k_aload_n (pc1 := 1570) dL_law_1569 rfl rfl ?_
  refine k_callV dL_law_1570 rfl lk_RL_214 o_X6_refusalDetail (as := []) rfl rfl hM1.1 rfl rfl (w_X6_refusalDetail hl hM1 hC.2.2 ) (by decide) (by decide) (Nat.zero_le _) (Nat.zero_le _) (k8 rfl) (fun v h2 hv => ?_) (fun E h9 z => z.elim)
  obtain ⟨hv1, hM2, hF2⟩ := hv
  rw [hv1]
  refine k_st (st' := [.int (iI ((TrefusalDetail f).2.1))]) rfl ?_
  have hst9 := l9_ref hC1 hM1 ht1 hO1 hD1 hM2 hF2.w
  refine k_istore (pc1 := 1575) dL_law_1573 rfl (by decide) (k_loc (L' := [some (.ref (kScB G)), some (.ref pl), some (.ref o), some (.ref ol), some (.ref od), some (.int (iI ((i : Nat) : Int))), some (.int (iI ((TrefusalDetail f).1))), some (.int (iI ((TrefusalDetail f).2.1))), none]) rfl ?_)
  refine k_aload_n (pc1 := 1576) dL_law_1575 rfl rfl ?_
  refine k_callVP dL_law_1576 rfl lk_RL_142 o_X6_thrown (w_thr hl hM2) (as := []) hM2.1 rfl rfl rfl rfl (by decide) (by decide) (k8 rfl) ?_
  refine k_iload (pc1 := 1581) dL_law_1579 rfl rfl ?_
  refine k_icmp_eq (a := (TrefusalDetail f).1) (b := (TrefusalDetail f).1) dL_law_1581 rfl (tgt := 1586) rfl (by omega) (by omega) (fun _ => ?_) (fun c => absurd rfl c)
  refine k_iload (pc1 := 1588) dL_law_1586 rfl rfl ?_
  refine k_if_ne (a := (TrefusalDetail f).1) dL_law_1588 rfl (tgt := 1603) rfl (by omega) (fun c1588 : (TrefusalDetail f).1 ≠ 0 => ?_) (fun c1588 : (TrefusalDetail f).1 = 0 => ?_)
  · skip
    refine k_goto dL_law_1603 (tgt := 2523) rfl ?_
    refine k_forget 6 (k_loc (L' := [some (.ref (kScB G)), some (.ref pl), some (.ref o), some (.ref ol), some (.ref od), some (.int (iI ((i : Nat) : Int))), none, some (.int (iI ((TrefusalDetail f).2.1))), none]) rfl ?_)
    refine k_forget 7 (k_loc (L' := [some (.ref (kScB G)), some (.ref pl), some (.ref o), some (.ref ol), some (.ref od), some (.int (iI ((i : Nat) : Int))), none, none, none]) rfl ?_)
    exact k_widen (by omega) (by omega) (IH _ _ _ _ _ _ _ hst9 hco2)
  · skip
    refine k_aload_n (pc1 := 1592) dL_law_1591 rfl rfl ?_
    refine k_iconst (pc1 := 1593) dL_law_1592 rfl ?_
    refine k_lald (i := 0) (pc1 := 1594) dL_law_1593 rfl hst9.2.2.2.1 (by decide) (by decide) (by decide) (k_val (v' := .long (Int32.toInt64 (iI (TrefusalDetail f).2.1))) (congrArg Value.long (hX1 (by omega))) ?_)
    refine k_iload (pc1 := 1596) dL_law_1594 rfl rfl ?_
    refine k_i2l (pc1 := 1597) dL_law_1596 rfl ?_
    refine k_lcmpE (pc1 := 1598) dL_law_1597 rfl (by first | rfl | (rw [if_pos (by omega)]; done) | (rw [if_neg (by omega)]; done) | (rw [if_pos (by omega)]; rfl) | (rw [if_neg (by omega)]; rfl)) ?_
    refine k_if_eq (a := 0) dL_law_1598 rfl (tgt := 1603) rfl (by decide) (fun _ => ?_) (fun c => absurd c (by decide))
    refine k_goto dL_law_1603 (tgt := 2523) rfl ?_
    refine k_forget 6 (k_loc (L' := [some (.ref (kScB G)), some (.ref pl), some (.ref o), some (.ref ol), some (.ref od), some (.int (iI ((i : Nat) : Int))), none, some (.int (iI ((TrefusalDetail f).2.1))), none]) rfl ?_)
    refine k_forget 7 (k_loc (L' := [some (.ref (kScB G)), some (.ref pl), some (.ref o), some (.ref ol), some (.ref od), some (.int (iI ((i : Nat) : Int))), none, none, none]) rfl ?_)
    exact k_widen (by omega) (by omega) (IH _ _ _ _ _ _ _ hst9 hco2)
theorem lc_isFree {l : Launch} {G : kG} {h : kAH} (hl : l.stackTraces = false) {pl o g r ol od : Nat} {γ : kGh} {A : kAb} {f : Nat → Int} {c9 : Int} {F9 : Nat → Int64} {D9 : Nat → UInt64} (hq : kLs9 G h pl o g r ol od γ A f c9 F9 D9) (hnx9 : f 2 < 1000000) (hsr : ∀ j : Nat, -2147483648 ≤ kScF G j ∧ kScF G j < 2147483648) {i : Nat} (hi6 : i + 6 ≤ kScL G) (hN9 : kScL G ≤ 1000000) {Φ : Option Value → kAH → Prop} {k n : Nat} (IH : ∀ (h' : kAH) (γ' : kGh) (A' : kAb) (f' : Nat → Int) (c' : Int) (F' : Nat → Int64) (D' : Nat → UInt64), kLs9 G h' pl o g r ol od γ' A' f' c' F' D' → f' 2 ≤ f 2 + 1 → kW l G m_L_law 12 Φ kNo k n 2523 [some (.ref (kScB G)), some (.ref pl), some (.ref o), some (.ref ol), some (.ref od), some (.int (iI ((i : Nat) : Int))), none, none, none] [] h') : kW l G m_L_law 12 Φ kNo (k + 40) (n + 4800) 1606 [some (.ref (kScB G)), some (.ref pl), some (.ref o), some (.ref ol), some (.ref od), some (.int (iI ((i : Nat) : Int))), none, none, none] [] h := by
  have hC := hq.1
  obtain ⟨hco0, hco1, hco2⟩ : kCo f (TisFree f (kScF G (i + 1)) (kScF G (i + 2)) (kScF G (i + 3))) := co_isFree (kScF G (i + 1)) (kScF G (i + 2)) (kScF G (i + 3))
  have hbo := bo_isFree (f := f) (kScF G (i + 1)) (kScF G (i + 2)) (kScF G (i + 3))
  refine k_aload_n (pc1 := 1607) dL_law_1606 rfl rfl ?_
  refine k_aload_n (pc1 := 1608) dL_law_1607 rfl rfl ?_
  refine k_iload (pc1 := 1610) dL_law_1608 rfl rfl ?_
  refine k_iconst (pc1 := 1611) dL_law_1610 rfl ?_
  refine k_iadd (a := ((i : Nat) : Int)) (b := 1) (pc1 := 1612) dL_law_1611 rfl ?_
  refine k_sld (i := (((i : Nat) : Int) + 1)) (pc1 := 1613) dL_law_1612 rfl rfl (by omega) (by omega) hN9 (k_val (v' := .int (iI (kScF G (i + 1)))) (by rw [show ((((i : Nat) : Int) + 1)).toNat = i + 1 by omega]) ?_)
  refine k_aload_n (pc1 := 1614) dL_law_1613 rfl rfl ?_
  refine k_iload (pc1 := 1616) dL_law_1614 rfl rfl ?_
  refine k_iconst (pc1 := 1617) dL_law_1616 rfl ?_
  refine k_iadd (a := ((i : Nat) : Int)) (b := 2) (pc1 := 1618) dL_law_1617 rfl ?_
  refine k_sld (i := (((i : Nat) : Int) + 2)) (pc1 := 1619) dL_law_1618 rfl rfl (by omega) (by omega) hN9 (k_val (v' := .int (iI (kScF G (i + 2)))) (by rw [show ((((i : Nat) : Int) + 2)).toNat = i + 2 by omega]) ?_)
  refine k_aload_n (pc1 := 1620) dL_law_1619 rfl rfl ?_
  refine k_iload (pc1 := 1622) dL_law_1620 rfl rfl ?_
  refine k_iconst (pc1 := 1623) dL_law_1622 rfl ?_
  refine k_iadd (a := ((i : Nat) : Int)) (b := 3) (pc1 := 1624) dL_law_1623 rfl ?_
  refine k_sld (i := (((i : Nat) : Int) + 3)) (pc1 := 1625) dL_law_1624 rfl rfl (by omega) (by omega) hN9 (k_val (v' := .int (iI (kScF G (i + 3)))) (by rw [show ((((i : Nat) : Int) + 3)).toNat = i + 3 by omega]) ?_)
  refine k_aload_n (pc1 := 1626) dL_law_1625 rfl rfl ?_
  refine k_callSX dL_law_1626 rfl rfl lk_RL_215 o_L_isFree (as := [.ref pl, .int (iI (kScF G (i + 1))), .int (iI (kScF G (i + 2))), .int (iI (kScF G (i + 3))), .ref ol]) rfl rfl (w_L_isFree hl hC (hsr _) (hsr _) (hsr _) hq.2.2.2.1 hq.2.2.1.2.2.2.1) (by decide) (by decide) (by omega) (by omega) (k8 rfl) (fun v h1 hv => ?_) (fun E h9 z => z.elim)
  obtain ⟨hv1, ⟨F1, hO1, hX1⟩, γ1, A1, hC1, hO2, hfr1⟩ := hv
  subst hv1
  refine k_st (st' := [.int (iI ((TisFree f (kScF G (i + 1)) (kScF G (i + 2)) (kScF G (i + 3))).1))]) rfl ?_
  obtain ⟨hM1, ht1, hD1⟩ := l9_call hq hC1 hO1 hO2 hfr1
  refine k_istore (pc1 := 1631) dL_law_1629 rfl (by decide) (k_loc (L' := [some (.ref (kScB G)), some (.ref pl), some (.ref o), some (.ref ol), some (.ref od), some (.int (iI ((i : Nat) : Int))), some (.int (iI ((TisFree f (kScF G (i + 1)) (kScF G (i + 2)) (kScF G (i + 3))).1))), none, none]) rfl ?_)
  refine k_aload_n (pc1 := 1632) dL_law_1631 rfl rfl ?_
  refine k_aload_n (pc1 := 1633) dL_law_1632 rfl rfl ?_
  refine k_iload (pc1 := 1635) dL_law_1633 rfl rfl ?_
  refine k_iconst (pc1 := 1636) dL_law_1635 rfl ?_
  refine k_iadd (a := ((i : Nat) : Int)) (b := 1) (pc1 := 1637) dL_law_1636 rfl ?_
  refine k_sld (i := (((i : Nat) : Int) + 1)) (pc1 := 1638) dL_law_1637 rfl rfl (by omega) (by omega) hN9 (k_val (v' := .int (iI (kScF G (i + 1)))) (by rw [show ((((i : Nat) : Int) + 1)).toNat = i + 1 by omega]) ?_)
  refine k_aload_n (pc1 := 1639) dL_law_1638 rfl rfl ?_
  refine k_iload (pc1 := 1641) dL_law_1639 rfl rfl ?_
  refine k_iconst (pc1 := 1642) dL_law_1641 rfl ?_
  refine k_iadd (a := ((i : Nat) : Int)) (b := 2) (pc1 := 1643) dL_law_1642 rfl ?_
  refine k_sld (i := (((i : Nat) : Int) + 2)) (pc1 := 1644) dL_law_1643 rfl rfl (by omega) (by omega) hN9 (k_val (v' := .int (iI (kScF G (i + 2)))) (by rw [show ((((i : Nat) : Int) + 2)).toNat = i + 2 by omega]) ?_)
  refine k_aload_n (pc1 := 1645) dL_law_1644 rfl rfl ?_
  refine k_iload (pc1 := 1647) dL_law_1645 rfl rfl ?_
  refine k_iconst (pc1 := 1648) dL_law_1647 rfl ?_
  refine k_iadd (a := ((i : Nat) : Int)) (b := 3) (pc1 := 1649) dL_law_1648 rfl ?_
  refine k_sld (i := (((i : Nat) : Int) + 3)) (pc1 := 1650) dL_law_1649 rfl rfl (by omega) (by omega) hN9 (k_val (v' := .int (iI (kScF G (i + 3)))) (by rw [show ((((i : Nat) : Int) + 3)).toNat = i + 3 by omega]) ?_)
  refine k_callV dL_law_1650 rfl lk_RL_217 o_X6_isFree (as := [.int (iI (kScF G (i + 1))), .int (iI (kScF G (i + 2))), .int (iI (kScF G (i + 3)))]) rfl rfl hM1.1 rfl rfl (w_X6_isFree hl hM1 hC.2.2 (kScF G (i + 1)) (kScF G (i + 2)) (kScF G (i + 3)) (hsr _) (hsr _) (hsr _)) (by decide) (by decide) (Nat.zero_le _) (Nat.zero_le _) (k8 rfl) (fun v h2 hv => ?_) (fun E h9 z => z.elim)
  obtain ⟨hv1, hM2, hF2⟩ := hv
  rw [hv1]
  refine k_st (st' := [.int (iI ((TisFree f (kScF G (i + 1)) (kScF G (i + 2)) (kScF G (i + 3))).2.1))]) rfl ?_
  have hst9 := l9_ref hC1 hM1 ht1 hO1 hD1 hM2 hF2.w
  refine k_istore (pc1 := 1655) dL_law_1653 rfl (by decide) (k_loc (L' := [some (.ref (kScB G)), some (.ref pl), some (.ref o), some (.ref ol), some (.ref od), some (.int (iI ((i : Nat) : Int))), some (.int (iI ((TisFree f (kScF G (i + 1)) (kScF G (i + 2)) (kScF G (i + 3))).1))), some (.int (iI ((TisFree f (kScF G (i + 1)) (kScF G (i + 2)) (kScF G (i + 3))).2.1))), none]) rfl ?_)
  refine k_aload_n (pc1 := 1656) dL_law_1655 rfl rfl ?_
  refine k_callVP dL_law_1656 rfl lk_RL_142 o_X6_thrown (w_thr hl hM2) (as := []) hM2.1 rfl rfl rfl rfl (by decide) (by decide) (k8 rfl) ?_
  refine k_iload (pc1 := 1661) dL_law_1659 rfl rfl ?_
  refine k_icmp_eq (a := (TisFree f (kScF G (i + 1)) (kScF G (i + 2)) (kScF G (i + 3))).1) (b := (TisFree f (kScF G (i + 1)) (kScF G (i + 2)) (kScF G (i + 3))).1) dL_law_1661 rfl (tgt := 1666) rfl (by omega) (by omega) (fun _ => ?_) (fun c => absurd rfl c)
  refine k_iload (pc1 := 1668) dL_law_1666 rfl rfl ?_
  refine k_if_ne (a := (TisFree f (kScF G (i + 1)) (kScF G (i + 2)) (kScF G (i + 3))).1) dL_law_1668 rfl (tgt := 1690) rfl (by omega) (fun c1668 : (TisFree f (kScF G (i + 1)) (kScF G (i + 2)) (kScF G (i + 3))).1 ≠ 0 => ?_) (fun c1668 : (TisFree f (kScF G (i + 1)) (kScF G (i + 2)) (kScF G (i + 3))).1 = 0 => ?_)
  · skip
    refine k_goto dL_law_1690 (tgt := 2523) rfl ?_
    refine k_forget 6 (k_loc (L' := [some (.ref (kScB G)), some (.ref pl), some (.ref o), some (.ref ol), some (.ref od), some (.int (iI ((i : Nat) : Int))), none, some (.int (iI ((TisFree f (kScF G (i + 1)) (kScF G (i + 2)) (kScF G (i + 3))).2.1))), none]) rfl ?_)
    refine k_forget 7 (k_loc (L' := [some (.ref (kScB G)), some (.ref pl), some (.ref o), some (.ref ol), some (.ref od), some (.int (iI ((i : Nat) : Int))), none, none, none]) rfl ?_)
    exact k_widen (by omega) (by omega) (IH _ _ _ _ _ _ _ hst9 hco2)
  · skip
    refine k_aload_n (pc1 := 1672) dL_law_1671 rfl rfl ?_
    refine k_iconst (pc1 := 1673) dL_law_1672 rfl ?_
    refine k_lald (i := 0) (pc1 := 1674) dL_law_1673 rfl hst9.2.2.2.1 (by decide) (by decide) (by decide) (k_val (v' := .long (Int64.ofNat (if (TisFree f (kScF G (i + 1)) (kScF G (i + 2)) (kScF G (i + 3))).2.1 = 0 then 0 else 1))) (congrArg Value.long (hX1 (by omega))) ?_)
    refine k_iload (pc1 := 1676) dL_law_1674 rfl rfl ?_
    refine k_if_eq (a := (TisFree f (kScF G (i + 1)) (kScF G (i + 2)) (kScF G (i + 3))).2.1) dL_law_1676 rfl (tgt := 1683) rfl (by omega) (fun c1676 : (TisFree f (kScF G (i + 1)) (kScF G (i + 2)) (kScF G (i + 3))).2.1 = 0 => ?_) (fun c1676 : (TisFree f (kScF G (i + 1)) (kScF G (i + 2)) (kScF G (i + 3))).2.1 ≠ 0 => ?_)
    · skip
      refine k_lconst (pc1 := 1684) dL_law_1683 rfl ?_
      refine k_lcmpE (pc1 := 1685) dL_law_1684 rfl (by first | rfl | (rw [if_pos (by omega)]; done) | (rw [if_neg (by omega)]; done) | (rw [if_pos (by omega)]; rfl) | (rw [if_neg (by omega)]; rfl)) ?_
      refine k_if_eq (a := 0) dL_law_1685 rfl (tgt := 1690) rfl (by decide) (fun _ => ?_) (fun c => absurd c (by decide))
      refine k_goto dL_law_1690 (tgt := 2523) rfl ?_
      refine k_forget 6 (k_loc (L' := [some (.ref (kScB G)), some (.ref pl), some (.ref o), some (.ref ol), some (.ref od), some (.int (iI ((i : Nat) : Int))), none, some (.int (iI ((TisFree f (kScF G (i + 1)) (kScF G (i + 2)) (kScF G (i + 3))).2.1))), none]) rfl ?_)
      refine k_forget 7 (k_loc (L' := [some (.ref (kScB G)), some (.ref pl), some (.ref o), some (.ref ol), some (.ref od), some (.int (iI ((i : Nat) : Int))), none, none, none]) rfl ?_)
      exact k_widen (by omega) (by omega) (IH _ _ _ _ _ _ _ hst9 hco2)
    · skip
      refine k_lconst (pc1 := 1680) dL_law_1679 rfl ?_
      refine k_goto dL_law_1680 (tgt := 1684) rfl ?_
      refine k_lcmpE (pc1 := 1685) dL_law_1684 rfl (by first | rfl | (rw [if_pos (by omega)]; done) | (rw [if_neg (by omega)]; done) | (rw [if_pos (by omega)]; rfl) | (rw [if_neg (by omega)]; rfl)) ?_
      refine k_if_eq (a := 0) dL_law_1685 rfl (tgt := 1690) rfl (by decide) (fun _ => ?_) (fun c => absurd c (by decide))
      refine k_goto dL_law_1690 (tgt := 2523) rfl ?_
      refine k_forget 6 (k_loc (L' := [some (.ref (kScB G)), some (.ref pl), some (.ref o), some (.ref ol), some (.ref od), some (.int (iI ((i : Nat) : Int))), none, some (.int (iI ((TisFree f (kScF G (i + 1)) (kScF G (i + 2)) (kScF G (i + 3))).2.1))), none]) rfl ?_)
      refine k_forget 7 (k_loc (L' := [some (.ref (kScB G)), some (.ref pl), some (.ref o), some (.ref ol), some (.ref od), some (.int (iI ((i : Nat) : Int))), none, none, none]) rfl ?_)
      exact k_widen (by omega) (by omega) (IH _ _ _ _ _ _ _ hst9 hco2)
theorem lc_meetingOf {l : Launch} {G : kG} {h : kAH} (hl : l.stackTraces = false) {pl o g r ol od : Nat} {γ : kGh} {A : kAb} {f : Nat → Int} {c9 : Int} {F9 : Nat → Int64} {D9 : Nat → UInt64} (hq : kLs9 G h pl o g r ol od γ A f c9 F9 D9) (hnx9 : f 2 < 1000000) (hsr : ∀ j : Nat, -2147483648 ≤ kScF G j ∧ kScF G j < 2147483648) {i : Nat} (hi6 : i + 6 ≤ kScL G) (hN9 : kScL G ≤ 1000000) {Φ : Option Value → kAH → Prop} {k n : Nat} (IH : ∀ (h' : kAH) (γ' : kGh) (A' : kAb) (f' : Nat → Int) (c' : Int) (F' : Nat → Int64) (D' : Nat → UInt64), kLs9 G h' pl o g r ol od γ' A' f' c' F' D' → f' 2 ≤ f 2 + 1 → kW l G m_L_law 12 Φ kNo k n 2523 [some (.ref (kScB G)), some (.ref pl), some (.ref o), some (.ref ol), some (.ref od), some (.int (iI ((i : Nat) : Int))), none, none, none] [] h') : kW l G m_L_law 12 Φ kNo (k + 40) (n + 4800) 1693 [some (.ref (kScB G)), some (.ref pl), some (.ref o), some (.ref ol), some (.ref od), some (.int (iI ((i : Nat) : Int))), none, none, none] [] h := by
  have hC := hq.1
  obtain ⟨hco0, hco1, hco2⟩ : kCo f (TmeetingOf f (kScF G (i + 1)) (kScF G (i + 2)) (kScF G (i + 3))) := co_meetingOf (kScF G (i + 1)) (kScF G (i + 2)) (kScF G (i + 3))
  refine k_aload_n (pc1 := 1694) dL_law_1693 rfl rfl ?_
  refine k_aload_n (pc1 := 1695) dL_law_1694 rfl rfl ?_
  refine k_iload (pc1 := 1697) dL_law_1695 rfl rfl ?_
  refine k_iconst (pc1 := 1698) dL_law_1697 rfl ?_
  refine k_iadd (a := ((i : Nat) : Int)) (b := 1) (pc1 := 1699) dL_law_1698 rfl ?_
  refine k_sld (i := (((i : Nat) : Int) + 1)) (pc1 := 1700) dL_law_1699 rfl rfl (by omega) (by omega) hN9 (k_val (v' := .int (iI (kScF G (i + 1)))) (by rw [show ((((i : Nat) : Int) + 1)).toNat = i + 1 by omega]) ?_)
  refine k_aload_n (pc1 := 1701) dL_law_1700 rfl rfl ?_
  refine k_iload (pc1 := 1703) dL_law_1701 rfl rfl ?_
  refine k_iconst (pc1 := 1704) dL_law_1703 rfl ?_
  refine k_iadd (a := ((i : Nat) : Int)) (b := 2) (pc1 := 1705) dL_law_1704 rfl ?_
  refine k_sld (i := (((i : Nat) : Int) + 2)) (pc1 := 1706) dL_law_1705 rfl rfl (by omega) (by omega) hN9 (k_val (v' := .int (iI (kScF G (i + 2)))) (by rw [show ((((i : Nat) : Int) + 2)).toNat = i + 2 by omega]) ?_)
  refine k_aload_n (pc1 := 1707) dL_law_1706 rfl rfl ?_
  refine k_iload (pc1 := 1709) dL_law_1707 rfl rfl ?_
  refine k_iconst (pc1 := 1710) dL_law_1709 rfl ?_
  refine k_iadd (a := ((i : Nat) : Int)) (b := 3) (pc1 := 1711) dL_law_1710 rfl ?_
  refine k_sld (i := (((i : Nat) : Int) + 3)) (pc1 := 1712) dL_law_1711 rfl rfl (by omega) (by omega) hN9 (k_val (v' := .int (iI (kScF G (i + 3)))) (by rw [show ((((i : Nat) : Int) + 3)).toNat = i + 3 by omega]) ?_)
  refine k_aload_n (pc1 := 1713) dL_law_1712 rfl rfl ?_
  refine k_callSX dL_law_1713 rfl rfl lk_RL_218 o_L_meetingOf (as := [.ref pl, .int (iI (kScF G (i + 1))), .int (iI (kScF G (i + 2))), .int (iI (kScF G (i + 3))), .ref ol]) rfl rfl (w_L_meetingOf hl hC (hsr _) (hsr _) (hsr _) hq.2.2.2.1 hq.2.2.1.2.2.2.1) (by decide) (by decide) (by omega) (by omega) (k8 rfl) (fun v h1 hv => ?_) (fun E h9 z => z.elim)
  obtain ⟨hv1, ⟨F1, hO1, hX1⟩, γ1, A1, hC1, hO2, hfr1⟩ := hv
  subst hv1
  refine k_st (st' := [.int (iI ((TmeetingOf f (kScF G (i + 1)) (kScF G (i + 2)) (kScF G (i + 3))).1))]) rfl ?_
  obtain ⟨hM1, ht1, hD1⟩ := l9_call hq hC1 hO1 hO2 hfr1
  refine k_istore (pc1 := 1718) dL_law_1716 rfl (by decide) (k_loc (L' := [some (.ref (kScB G)), some (.ref pl), some (.ref o), some (.ref ol), some (.ref od), some (.int (iI ((i : Nat) : Int))), some (.int (iI ((TmeetingOf f (kScF G (i + 1)) (kScF G (i + 2)) (kScF G (i + 3))).1))), none, none]) rfl ?_)
  refine k_aload_n (pc1 := 1719) dL_law_1718 rfl rfl ?_
  refine k_aload_n (pc1 := 1720) dL_law_1719 rfl rfl ?_
  refine k_iload (pc1 := 1722) dL_law_1720 rfl rfl ?_
  refine k_iconst (pc1 := 1723) dL_law_1722 rfl ?_
  refine k_iadd (a := ((i : Nat) : Int)) (b := 1) (pc1 := 1724) dL_law_1723 rfl ?_
  refine k_sld (i := (((i : Nat) : Int) + 1)) (pc1 := 1725) dL_law_1724 rfl rfl (by omega) (by omega) hN9 (k_val (v' := .int (iI (kScF G (i + 1)))) (by rw [show ((((i : Nat) : Int) + 1)).toNat = i + 1 by omega]) ?_)
  refine k_aload_n (pc1 := 1726) dL_law_1725 rfl rfl ?_
  refine k_iload (pc1 := 1728) dL_law_1726 rfl rfl ?_
  refine k_iconst (pc1 := 1729) dL_law_1728 rfl ?_
  refine k_iadd (a := ((i : Nat) : Int)) (b := 2) (pc1 := 1730) dL_law_1729 rfl ?_
  refine k_sld (i := (((i : Nat) : Int) + 2)) (pc1 := 1731) dL_law_1730 rfl rfl (by omega) (by omega) hN9 (k_val (v' := .int (iI (kScF G (i + 2)))) (by rw [show ((((i : Nat) : Int) + 2)).toNat = i + 2 by omega]) ?_)
  refine k_aload_n (pc1 := 1732) dL_law_1731 rfl rfl ?_
  refine k_iload (pc1 := 1734) dL_law_1732 rfl rfl ?_
  refine k_iconst (pc1 := 1735) dL_law_1734 rfl ?_
  refine k_iadd (a := ((i : Nat) : Int)) (b := 3) (pc1 := 1736) dL_law_1735 rfl ?_
  refine k_sld (i := (((i : Nat) : Int) + 3)) (pc1 := 1737) dL_law_1736 rfl rfl (by omega) (by omega) hN9 (k_val (v' := .int (iI (kScF G (i + 3)))) (by rw [show ((((i : Nat) : Int) + 3)).toNat = i + 3 by omega]) ?_)
  refine k_callV dL_law_1737 rfl lk_RL_220 o_X6_meetingOf (as := [.int (iI (kScF G (i + 1))), .int (iI (kScF G (i + 2))), .int (iI (kScF G (i + 3)))]) rfl rfl hM1.1 rfl rfl (w_X6_meetingOf hl hM1 hC.2.2 (kScF G (i + 1)) (kScF G (i + 2)) (kScF G (i + 3)) (hsr _) (hsr _) (hsr _)) (by decide) (by decide) (Nat.zero_le _) (Nat.zero_le _) (k8 rfl) (fun v h2 hv => ?_) (fun E h9 z => z.elim)
  obtain ⟨hv1, hM2, hF2⟩ := hv
  rw [hv1]
  refine k_st (st' := [.int (iI ((TmeetingOf f (kScF G (i + 1)) (kScF G (i + 2)) (kScF G (i + 3))).2.1))]) rfl ?_
  have hst9 := l9_ref hC1 hM1 ht1 hO1 hD1 hM2 hF2.w
  refine k_istore (pc1 := 1742) dL_law_1740 rfl (by decide) (k_loc (L' := [some (.ref (kScB G)), some (.ref pl), some (.ref o), some (.ref ol), some (.ref od), some (.int (iI ((i : Nat) : Int))), some (.int (iI ((TmeetingOf f (kScF G (i + 1)) (kScF G (i + 2)) (kScF G (i + 3))).1))), some (.int (iI ((TmeetingOf f (kScF G (i + 1)) (kScF G (i + 2)) (kScF G (i + 3))).2.1))), none]) rfl ?_)
  refine k_aload_n (pc1 := 1743) dL_law_1742 rfl rfl ?_
  refine k_callVP dL_law_1743 rfl lk_RL_142 o_X6_thrown (w_thr hl hM2) (as := []) hM2.1 rfl rfl rfl rfl (by decide) (by decide) (k8 rfl) ?_
  refine k_iload (pc1 := 1748) dL_law_1746 rfl rfl ?_
  refine k_icmp_eq (a := (TmeetingOf f (kScF G (i + 1)) (kScF G (i + 2)) (kScF G (i + 3))).1) (b := (TmeetingOf f (kScF G (i + 1)) (kScF G (i + 2)) (kScF G (i + 3))).1) dL_law_1748 rfl (tgt := 1753) rfl (by omega) (by omega) (fun _ => ?_) (fun c => absurd rfl c)
  refine k_iload (pc1 := 1755) dL_law_1753 rfl rfl ?_
  refine k_if_ne (a := (TmeetingOf f (kScF G (i + 1)) (kScF G (i + 2)) (kScF G (i + 3))).1) dL_law_1755 rfl (tgt := 1770) rfl (by omega) (fun c1755 : (TmeetingOf f (kScF G (i + 1)) (kScF G (i + 2)) (kScF G (i + 3))).1 ≠ 0 => ?_) (fun c1755 : (TmeetingOf f (kScF G (i + 1)) (kScF G (i + 2)) (kScF G (i + 3))).1 = 0 => ?_)
  · skip
    refine k_goto dL_law_1770 (tgt := 2523) rfl ?_
    refine k_forget 6 (k_loc (L' := [some (.ref (kScB G)), some (.ref pl), some (.ref o), some (.ref ol), some (.ref od), some (.int (iI ((i : Nat) : Int))), none, some (.int (iI ((TmeetingOf f (kScF G (i + 1)) (kScF G (i + 2)) (kScF G (i + 3))).2.1))), none]) rfl ?_)
    refine k_forget 7 (k_loc (L' := [some (.ref (kScB G)), some (.ref pl), some (.ref o), some (.ref ol), some (.ref od), some (.int (iI ((i : Nat) : Int))), none, none, none]) rfl ?_)
    exact k_widen (by omega) (by omega) (IH _ _ _ _ _ _ _ hst9 hco2)
  · skip
    refine k_aload_n (pc1 := 1759) dL_law_1758 rfl rfl ?_
    refine k_iconst (pc1 := 1760) dL_law_1759 rfl ?_
    refine k_lald (i := 0) (pc1 := 1761) dL_law_1760 rfl hst9.2.2.2.1 (by decide) (by decide) (by decide) (k_val (v' := .long (Int32.toInt64 (iI (TmeetingOf f (kScF G (i + 1)) (kScF G (i + 2)) (kScF G (i + 3))).2.1))) (congrArg Value.long (hX1 (by omega))) ?_)
    refine k_iload (pc1 := 1763) dL_law_1761 rfl rfl ?_
    refine k_i2l (pc1 := 1764) dL_law_1763 rfl ?_
    refine k_lcmpE (pc1 := 1765) dL_law_1764 rfl (by first | rfl | (rw [if_pos (by omega)]; done) | (rw [if_neg (by omega)]; done) | (rw [if_pos (by omega)]; rfl) | (rw [if_neg (by omega)]; rfl)) ?_
    refine k_if_eq (a := 0) dL_law_1765 rfl (tgt := 1770) rfl (by decide) (fun _ => ?_) (fun c => absurd c (by decide))
    refine k_goto dL_law_1770 (tgt := 2523) rfl ?_
    refine k_forget 6 (k_loc (L' := [some (.ref (kScB G)), some (.ref pl), some (.ref o), some (.ref ol), some (.ref od), some (.int (iI ((i : Nat) : Int))), none, some (.int (iI ((TmeetingOf f (kScF G (i + 1)) (kScF G (i + 2)) (kScF G (i + 3))).2.1))), none]) rfl ?_)
    refine k_forget 7 (k_loc (L' := [some (.ref (kScB G)), some (.ref pl), some (.ref o), some (.ref ol), some (.ref od), some (.int (iI ((i : Nat) : Int))), none, none, none]) rfl ?_)
    exact k_widen (by omega) (by omega) (IH _ _ _ _ _ _ _ hst9 hco2)
theorem lc_freeTimes {l : Launch} {G : kG} {h : kAH} (hl : l.stackTraces = false) {pl o g r ol od : Nat} {γ : kGh} {A : kAb} {f : Nat → Int} {c9 : Int} {F9 : Nat → Int64} {D9 : Nat → UInt64} (hq : kLs9 G h pl o g r ol od γ A f c9 F9 D9) (hnx9 : f 2 < 1000000) (hsr : ∀ j : Nat, -2147483648 ≤ kScF G j ∧ kScF G j < 2147483648) {i : Nat} (hi6 : i + 6 ≤ kScL G) (hN9 : kScL G ≤ 1000000) {Φ : Option Value → kAH → Prop} {k n : Nat} (IH : ∀ (h' : kAH) (γ' : kGh) (A' : kAb) (f' : Nat → Int) (c' : Int) (F' : Nat → Int64) (D' : Nat → UInt64), kLs9 G h' pl o g r ol od γ' A' f' c' F' D' → f' 2 ≤ f 2 + 1 → kW l G m_L_law 12 Φ kNo k n 2523 [some (.ref (kScB G)), some (.ref pl), some (.ref o), some (.ref ol), some (.ref od), some (.int (iI ((i : Nat) : Int))), none, none, none] [] h') : kW l G m_L_law 12 Φ kNo (k + 40) (n + 4800) 1773 [some (.ref (kScB G)), some (.ref pl), some (.ref o), some (.ref ol), some (.ref od), some (.int (iI ((i : Nat) : Int))), none, none, none] [] h := by
  have hC := hq.1
  obtain ⟨hco0, hco1, hco2⟩ : kCo f (Tfrees f (kScF G (i + 1)) (kScF G (i + 2))) := co_frees (kScF G (i + 1)) (kScF G (i + 2))
  refine k_aload_n (pc1 := 1774) dL_law_1773 rfl rfl ?_
  refine k_aload_n (pc1 := 1775) dL_law_1774 rfl rfl ?_
  refine k_iload (pc1 := 1777) dL_law_1775 rfl rfl ?_
  refine k_iconst (pc1 := 1778) dL_law_1777 rfl ?_
  refine k_iadd (a := ((i : Nat) : Int)) (b := 1) (pc1 := 1779) dL_law_1778 rfl ?_
  refine k_sld (i := (((i : Nat) : Int) + 1)) (pc1 := 1780) dL_law_1779 rfl rfl (by omega) (by omega) hN9 (k_val (v' := .int (iI (kScF G (i + 1)))) (by rw [show ((((i : Nat) : Int) + 1)).toNat = i + 1 by omega]) ?_)
  refine k_aload_n (pc1 := 1781) dL_law_1780 rfl rfl ?_
  refine k_iload (pc1 := 1783) dL_law_1781 rfl rfl ?_
  refine k_iconst (pc1 := 1784) dL_law_1783 rfl ?_
  refine k_iadd (a := ((i : Nat) : Int)) (b := 2) (pc1 := 1785) dL_law_1784 rfl ?_
  refine k_sld (i := (((i : Nat) : Int) + 2)) (pc1 := 1786) dL_law_1785 rfl rfl (by omega) (by omega) hN9 (k_val (v' := .int (iI (kScF G (i + 2)))) (by rw [show ((((i : Nat) : Int) + 2)).toNat = i + 2 by omega]) ?_)
  refine k_aload_n (pc1 := 1787) dL_law_1786 rfl rfl ?_
  refine k_callSX dL_law_1787 rfl rfl lk_RL_221 o_L_freeTimes (as := [.ref pl, .int (iI (kScF G (i + 1))), .int (iI (kScF G (i + 2))), .ref ol]) rfl rfl (w_L_freeTimes hl hC (hsr _) (hsr _) hq.2.2.2.1 hq.2.2.1.2.2.2.1) (by decide) (by decide) (by omega) (by omega) (k8 rfl) (fun v h1 hv => ?_) (fun E h9 z => z.elim)
  obtain ⟨hv1, ⟨F1, hO1, hX1⟩, γ1, A1, hC1, hO2, hfr1⟩ := hv
  subst hv1
  refine k_st (st' := [.int (iI ((Tfrees f (kScF G (i + 1)) (kScF G (i + 2))).1))]) rfl ?_
  obtain ⟨hM1, ht1, hD1⟩ := l9_call hq hC1 hO1 hO2 hfr1
  refine k_istore (pc1 := 1792) dL_law_1790 rfl (by decide) (k_loc (L' := [some (.ref (kScB G)), some (.ref pl), some (.ref o), some (.ref ol), some (.ref od), some (.int (iI ((i : Nat) : Int))), some (.int (iI ((Tfrees f (kScF G (i + 1)) (kScF G (i + 2))).1))), none, none]) rfl ?_)
  refine k_aload_n (pc1 := 1793) dL_law_1792 rfl rfl ?_
  refine k_aload_n (pc1 := 1794) dL_law_1793 rfl rfl ?_
  refine k_iload (pc1 := 1796) dL_law_1794 rfl rfl ?_
  refine k_iconst (pc1 := 1797) dL_law_1796 rfl ?_
  refine k_iadd (a := ((i : Nat) : Int)) (b := 1) (pc1 := 1798) dL_law_1797 rfl ?_
  refine k_sld (i := (((i : Nat) : Int) + 1)) (pc1 := 1799) dL_law_1798 rfl rfl (by omega) (by omega) hN9 (k_val (v' := .int (iI (kScF G (i + 1)))) (by rw [show ((((i : Nat) : Int) + 1)).toNat = i + 1 by omega]) ?_)
  refine k_aload_n (pc1 := 1800) dL_law_1799 rfl rfl ?_
  refine k_iload (pc1 := 1802) dL_law_1800 rfl rfl ?_
  refine k_iconst (pc1 := 1803) dL_law_1802 rfl ?_
  refine k_iadd (a := ((i : Nat) : Int)) (b := 2) (pc1 := 1804) dL_law_1803 rfl ?_
  refine k_sld (i := (((i : Nat) : Int) + 2)) (pc1 := 1805) dL_law_1804 rfl rfl (by omega) (by omega) hN9 (k_val (v' := .int (iI (kScF G (i + 2)))) (by rw [show ((((i : Nat) : Int) + 2)).toNat = i + 2 by omega]) ?_)
  refine k_callV dL_law_1805 rfl lk_RL_223 o_X6_freeTimes (as := [.int (iI (kScF G (i + 1))), .int (iI (kScF G (i + 2)))]) rfl rfl hM1.1 rfl rfl (w_X6_freeTimes hl hM1 hC.2.2 (kScF G (i + 1)) (kScF G (i + 2)) (hsr _) (hsr _)) (by decide) (by decide) (Nat.zero_le _) (Nat.zero_le _) (k8 rfl) (fun v h2 hv => ?_) (fun E h9 z => z.elim)
  obtain ⟨hv1, hM2, hF2⟩ := hv
  rw [hv1]
  refine k_st (st' := [.int (iI ((Tfrees f (kScF G (i + 1)) (kScF G (i + 2))).2.1))]) rfl ?_
  have hst9 := l9_ref hC1 hM1 ht1 hO1 hD1 hM2 hF2.w
  refine k_istore (pc1 := 1810) dL_law_1808 rfl (by decide) (k_loc (L' := [some (.ref (kScB G)), some (.ref pl), some (.ref o), some (.ref ol), some (.ref od), some (.int (iI ((i : Nat) : Int))), some (.int (iI ((Tfrees f (kScF G (i + 1)) (kScF G (i + 2))).1))), some (.int (iI ((Tfrees f (kScF G (i + 1)) (kScF G (i + 2))).2.1))), none]) rfl ?_)
  refine k_aload_n (pc1 := 1811) dL_law_1810 rfl rfl ?_
  refine k_callVP dL_law_1811 rfl lk_RL_142 o_X6_thrown (w_thr hl hM2) (as := []) hM2.1 rfl rfl rfl rfl (by decide) (by decide) (k8 rfl) ?_
  refine k_iload (pc1 := 1816) dL_law_1814 rfl rfl ?_
  refine k_icmp_eq (a := (Tfrees f (kScF G (i + 1)) (kScF G (i + 2))).1) (b := (Tfrees f (kScF G (i + 1)) (kScF G (i + 2))).1) dL_law_1816 rfl (tgt := 1821) rfl (by omega) (by omega) (fun _ => ?_) (fun c => absurd rfl c)
  refine k_iload (pc1 := 1823) dL_law_1821 rfl rfl ?_
  refine k_if_ne (a := (Tfrees f (kScF G (i + 1)) (kScF G (i + 2))).1) dL_law_1823 rfl (tgt := 1838) rfl (by omega) (fun c1823 : (Tfrees f (kScF G (i + 1)) (kScF G (i + 2))).1 ≠ 0 => ?_) (fun c1823 : (Tfrees f (kScF G (i + 1)) (kScF G (i + 2))).1 = 0 => ?_)
  · skip
    refine k_goto dL_law_1838 (tgt := 2523) rfl ?_
    refine k_forget 6 (k_loc (L' := [some (.ref (kScB G)), some (.ref pl), some (.ref o), some (.ref ol), some (.ref od), some (.int (iI ((i : Nat) : Int))), none, some (.int (iI ((Tfrees f (kScF G (i + 1)) (kScF G (i + 2))).2.1))), none]) rfl ?_)
    refine k_forget 7 (k_loc (L' := [some (.ref (kScB G)), some (.ref pl), some (.ref o), some (.ref ol), some (.ref od), some (.int (iI ((i : Nat) : Int))), none, none, none]) rfl ?_)
    exact k_widen (by omega) (by omega) (IH _ _ _ _ _ _ _ hst9 hco2)
  · skip
    refine k_aload_n (pc1 := 1827) dL_law_1826 rfl rfl ?_
    refine k_iconst (pc1 := 1828) dL_law_1827 rfl ?_
    refine k_lald (i := 0) (pc1 := 1829) dL_law_1828 rfl hst9.2.2.2.1 (by decide) (by decide) (by decide) (k_val (v' := .long (Int32.toInt64 (iI (Tfrees f (kScF G (i + 1)) (kScF G (i + 2))).2.1))) (congrArg Value.long (hX1 (by omega))) ?_)
    refine k_iload (pc1 := 1831) dL_law_1829 rfl rfl ?_
    refine k_i2l (pc1 := 1832) dL_law_1831 rfl ?_
    refine k_lcmpE (pc1 := 1833) dL_law_1832 rfl (by first | rfl | (rw [if_pos (by omega)]; done) | (rw [if_neg (by omega)]; done) | (rw [if_pos (by omega)]; rfl) | (rw [if_neg (by omega)]; rfl)) ?_
    refine k_if_eq (a := 0) dL_law_1833 rfl (tgt := 1838) rfl (by decide) (fun _ => ?_) (fun c => absurd c (by decide))
    refine k_goto dL_law_1838 (tgt := 2523) rfl ?_
    refine k_forget 6 (k_loc (L' := [some (.ref (kScB G)), some (.ref pl), some (.ref o), some (.ref ol), some (.ref od), some (.int (iI ((i : Nat) : Int))), none, some (.int (iI ((Tfrees f (kScF G (i + 1)) (kScF G (i + 2))).2.1))), none]) rfl ?_)
    refine k_forget 7 (k_loc (L' := [some (.ref (kScB G)), some (.ref pl), some (.ref o), some (.ref ol), some (.ref od), some (.int (iI ((i : Nat) : Int))), none, none, none]) rfl ?_)
    exact k_widen (by omega) (by omega) (IH _ _ _ _ _ _ _ hst9 hco2)
theorem lc_freeByTrying {l : Launch} {G : kG} {h : kAH} (hl : l.stackTraces = false) {pl o g r ol od : Nat} {γ : kGh} {A : kAb} {f : Nat → Int} {c9 : Int} {F9 : Nat → Int64} {D9 : Nat → UInt64} (hq : kLs9 G h pl o g r ol od γ A f c9 F9 D9) (hnx9 : f 2 < 1000000) (hsr : ∀ j : Nat, -2147483648 ≤ kScF G j ∧ kScF G j < 2147483648) {i : Nat} (hi6 : i + 6 ≤ kScL G) (hN9 : kScL G ≤ 1000000) {Φ : Option Value → kAH → Prop} {k n : Nat} (IH : ∀ (h' : kAH) (γ' : kGh) (A' : kAb) (f' : Nat → Int) (c' : Int) (F' : Nat → Int64) (D' : Nat → UInt64), kLs9 G h' pl o g r ol od γ' A' f' c' F' D' → f' 2 ≤ f 2 + 1 → kW l G m_L_law 12 Φ kNo k n 2523 [some (.ref (kScB G)), some (.ref pl), some (.ref o), some (.ref ol), some (.ref od), some (.int (iI ((i : Nat) : Int))), none, none, none] [] h') : kW l G m_L_law 12 Φ kNo (k + 40) (n + 4800) 1841 [some (.ref (kScB G)), some (.ref pl), some (.ref o), some (.ref ol), some (.ref od), some (.int (iI ((i : Nat) : Int))), none, none, none] [] h := by
  have hC := hq.1
  obtain ⟨hco0, hco1, hco2⟩ : kCo f (Tfrees f (kScF G (i + 1)) (kScF G (i + 2))) := co_frees (kScF G (i + 1)) (kScF G (i + 2))
  refine k_aload_n (pc1 := 1842) dL_law_1841 rfl rfl ?_
  refine k_aload_n (pc1 := 1843) dL_law_1842 rfl rfl ?_
  refine k_iload (pc1 := 1845) dL_law_1843 rfl rfl ?_
  refine k_iconst (pc1 := 1846) dL_law_1845 rfl ?_
  refine k_iadd (a := ((i : Nat) : Int)) (b := 1) (pc1 := 1847) dL_law_1846 rfl ?_
  refine k_sld (i := (((i : Nat) : Int) + 1)) (pc1 := 1848) dL_law_1847 rfl rfl (by omega) (by omega) hN9 (k_val (v' := .int (iI (kScF G (i + 1)))) (by rw [show ((((i : Nat) : Int) + 1)).toNat = i + 1 by omega]) ?_)
  refine k_aload_n (pc1 := 1849) dL_law_1848 rfl rfl ?_
  refine k_iload (pc1 := 1851) dL_law_1849 rfl rfl ?_
  refine k_iconst (pc1 := 1852) dL_law_1851 rfl ?_
  refine k_iadd (a := ((i : Nat) : Int)) (b := 2) (pc1 := 1853) dL_law_1852 rfl ?_
  refine k_sld (i := (((i : Nat) : Int) + 2)) (pc1 := 1854) dL_law_1853 rfl rfl (by omega) (by omega) hN9 (k_val (v' := .int (iI (kScF G (i + 2)))) (by rw [show ((((i : Nat) : Int) + 2)).toNat = i + 2 by omega]) ?_)
  refine k_aload_n (pc1 := 1855) dL_law_1854 rfl rfl ?_
  refine k_callSX dL_law_1855 rfl rfl lk_RL_224 o_L_freeByTrying (as := [.ref pl, .int (iI (kScF G (i + 1))), .int (iI (kScF G (i + 2))), .ref ol]) rfl rfl (w_L_freeByTrying hl hC (hsr _) (hsr _) hq.2.2.2.1 hq.2.2.1.2.2.2.1) (by decide) (by decide) (by omega) (by omega) (k8 rfl) (fun v h1 hv => ?_) (fun E h9 z => z.elim)
  obtain ⟨hv1, ⟨F1, hO1, hX1⟩, γ1, A1, hC1, hO2, hfr1⟩ := hv
  subst hv1
  refine k_st (st' := [.int (iI ((Tfrees f (kScF G (i + 1)) (kScF G (i + 2))).1))]) rfl ?_
  obtain ⟨hM1, ht1, hD1⟩ := l9_call hq hC1 hO1 hO2 hfr1
  refine k_istore (pc1 := 1860) dL_law_1858 rfl (by decide) (k_loc (L' := [some (.ref (kScB G)), some (.ref pl), some (.ref o), some (.ref ol), some (.ref od), some (.int (iI ((i : Nat) : Int))), some (.int (iI ((Tfrees f (kScF G (i + 1)) (kScF G (i + 2))).1))), none, none]) rfl ?_)
  refine k_aload_n (pc1 := 1861) dL_law_1860 rfl rfl ?_
  refine k_aload_n (pc1 := 1862) dL_law_1861 rfl rfl ?_
  refine k_iload (pc1 := 1864) dL_law_1862 rfl rfl ?_
  refine k_iconst (pc1 := 1865) dL_law_1864 rfl ?_
  refine k_iadd (a := ((i : Nat) : Int)) (b := 1) (pc1 := 1866) dL_law_1865 rfl ?_
  refine k_sld (i := (((i : Nat) : Int) + 1)) (pc1 := 1867) dL_law_1866 rfl rfl (by omega) (by omega) hN9 (k_val (v' := .int (iI (kScF G (i + 1)))) (by rw [show ((((i : Nat) : Int) + 1)).toNat = i + 1 by omega]) ?_)
  refine k_aload_n (pc1 := 1868) dL_law_1867 rfl rfl ?_
  refine k_iload (pc1 := 1870) dL_law_1868 rfl rfl ?_
  refine k_iconst (pc1 := 1871) dL_law_1870 rfl ?_
  refine k_iadd (a := ((i : Nat) : Int)) (b := 2) (pc1 := 1872) dL_law_1871 rfl ?_
  refine k_sld (i := (((i : Nat) : Int) + 2)) (pc1 := 1873) dL_law_1872 rfl rfl (by omega) (by omega) hN9 (k_val (v' := .int (iI (kScF G (i + 2)))) (by rw [show ((((i : Nat) : Int) + 2)).toNat = i + 2 by omega]) ?_)
  refine k_callV dL_law_1873 rfl lk_RL_226 o_X6_freeByTrying (as := [.int (iI (kScF G (i + 1))), .int (iI (kScF G (i + 2)))]) rfl rfl hM1.1 rfl rfl (w_X6_freeByTrying hl hM1 hC.2.2 (kScF G (i + 1)) (kScF G (i + 2)) (hsr _) (hsr _)) (by decide) (by decide) (Nat.zero_le _) (Nat.zero_le _) (k8 rfl) (fun v h2 hv => ?_) (fun E h9 z => z.elim)
  obtain ⟨hv1, hM2, hF2⟩ := hv
  rw [hv1]
  refine k_st (st' := [.int (iI ((Tfrees f (kScF G (i + 1)) (kScF G (i + 2))).2.1))]) rfl ?_
  have hst9 := l9_ref hC1 hM1 ht1 hO1 hD1 hM2 hF2.w
  refine k_istore (pc1 := 1878) dL_law_1876 rfl (by decide) (k_loc (L' := [some (.ref (kScB G)), some (.ref pl), some (.ref o), some (.ref ol), some (.ref od), some (.int (iI ((i : Nat) : Int))), some (.int (iI ((Tfrees f (kScF G (i + 1)) (kScF G (i + 2))).1))), some (.int (iI ((Tfrees f (kScF G (i + 1)) (kScF G (i + 2))).2.1))), none]) rfl ?_)
  refine k_aload_n (pc1 := 1879) dL_law_1878 rfl rfl ?_
  refine k_callVP dL_law_1879 rfl lk_RL_142 o_X6_thrown (w_thr hl hM2) (as := []) hM2.1 rfl rfl rfl rfl (by decide) (by decide) (k8 rfl) ?_
  refine k_iload (pc1 := 1884) dL_law_1882 rfl rfl ?_
  refine k_icmp_eq (a := (Tfrees f (kScF G (i + 1)) (kScF G (i + 2))).1) (b := (Tfrees f (kScF G (i + 1)) (kScF G (i + 2))).1) dL_law_1884 rfl (tgt := 1889) rfl (by omega) (by omega) (fun _ => ?_) (fun c => absurd rfl c)
  refine k_iload (pc1 := 1891) dL_law_1889 rfl rfl ?_
  refine k_if_ne (a := (Tfrees f (kScF G (i + 1)) (kScF G (i + 2))).1) dL_law_1891 rfl (tgt := 1906) rfl (by omega) (fun c1891 : (Tfrees f (kScF G (i + 1)) (kScF G (i + 2))).1 ≠ 0 => ?_) (fun c1891 : (Tfrees f (kScF G (i + 1)) (kScF G (i + 2))).1 = 0 => ?_)
  · skip
    refine k_goto dL_law_1906 (tgt := 2523) rfl ?_
    refine k_forget 6 (k_loc (L' := [some (.ref (kScB G)), some (.ref pl), some (.ref o), some (.ref ol), some (.ref od), some (.int (iI ((i : Nat) : Int))), none, some (.int (iI ((Tfrees f (kScF G (i + 1)) (kScF G (i + 2))).2.1))), none]) rfl ?_)
    refine k_forget 7 (k_loc (L' := [some (.ref (kScB G)), some (.ref pl), some (.ref o), some (.ref ol), some (.ref od), some (.int (iI ((i : Nat) : Int))), none, none, none]) rfl ?_)
    exact k_widen (by omega) (by omega) (IH _ _ _ _ _ _ _ hst9 hco2)
  · skip
    refine k_aload_n (pc1 := 1895) dL_law_1894 rfl rfl ?_
    refine k_iconst (pc1 := 1896) dL_law_1895 rfl ?_
    refine k_lald (i := 0) (pc1 := 1897) dL_law_1896 rfl hst9.2.2.2.1 (by decide) (by decide) (by decide) (k_val (v' := .long (Int32.toInt64 (iI (Tfrees f (kScF G (i + 1)) (kScF G (i + 2))).2.1))) (congrArg Value.long (hX1 (by omega))) ?_)
    refine k_iload (pc1 := 1899) dL_law_1897 rfl rfl ?_
    refine k_i2l (pc1 := 1900) dL_law_1899 rfl ?_
    refine k_lcmpE (pc1 := 1901) dL_law_1900 rfl (by first | rfl | (rw [if_pos (by omega)]; done) | (rw [if_neg (by omega)]; done) | (rw [if_pos (by omega)]; rfl) | (rw [if_neg (by omega)]; rfl)) ?_
    refine k_if_eq (a := 0) dL_law_1901 rfl (tgt := 1906) rfl (by decide) (fun _ => ?_) (fun c => absurd c (by decide))
    refine k_goto dL_law_1906 (tgt := 2523) rfl ?_
    refine k_forget 6 (k_loc (L' := [some (.ref (kScB G)), some (.ref pl), some (.ref o), some (.ref ol), some (.ref od), some (.int (iI ((i : Nat) : Int))), none, some (.int (iI ((Tfrees f (kScF G (i + 1)) (kScF G (i + 2))).2.1))), none]) rfl ?_)
    refine k_forget 7 (k_loc (L' := [some (.ref (kScB G)), some (.ref pl), some (.ref o), some (.ref ol), some (.ref od), some (.int (iI ((i : Nat) : Int))), none, none, none]) rfl ?_)
    exact k_widen (by omega) (by omega) (IH _ _ _ _ _ _ _ hst9 hco2)
theorem lc_longestFree {l : Launch} {G : kG} {h : kAH} (hl : l.stackTraces = false) {pl o g r ol od : Nat} {γ : kGh} {A : kAb} {f : Nat → Int} {c9 : Int} {F9 : Nat → Int64} {D9 : Nat → UInt64} (hq : kLs9 G h pl o g r ol od γ A f c9 F9 D9) (hnx9 : f 2 < 1000000) (hsr : ∀ j : Nat, -2147483648 ≤ kScF G j ∧ kScF G j < 2147483648) {i : Nat} (hi6 : i + 6 ≤ kScL G) (hN9 : kScL G ≤ 1000000) {Φ : Option Value → kAH → Prop} {k n : Nat} (IH : ∀ (h' : kAH) (γ' : kGh) (A' : kAb) (f' : Nat → Int) (c' : Int) (F' : Nat → Int64) (D' : Nat → UInt64), kLs9 G h' pl o g r ol od γ' A' f' c' F' D' → f' 2 ≤ f 2 + 1 → kW l G m_L_law 12 Φ kNo k n 2523 [some (.ref (kScB G)), some (.ref pl), some (.ref o), some (.ref ol), some (.ref od), some (.int (iI ((i : Nat) : Int))), none, none, none] [] h') : kW l G m_L_law 12 Φ kNo (k + 40) (n + 4800) 1909 [some (.ref (kScB G)), some (.ref pl), some (.ref o), some (.ref ol), some (.ref od), some (.int (iI ((i : Nat) : Int))), none, none, none] [] h := by
  have hC := hq.1
  obtain ⟨hco0, hco1, hco2⟩ : kCo f (TlongestFree f (kScF G (i + 1)) (kScF G (i + 2))) := co_longestFree (kScF G (i + 1)) (kScF G (i + 2))
  refine k_aload_n (pc1 := 1910) dL_law_1909 rfl rfl ?_
  refine k_aload_n (pc1 := 1911) dL_law_1910 rfl rfl ?_
  refine k_iload (pc1 := 1913) dL_law_1911 rfl rfl ?_
  refine k_iconst (pc1 := 1914) dL_law_1913 rfl ?_
  refine k_iadd (a := ((i : Nat) : Int)) (b := 1) (pc1 := 1915) dL_law_1914 rfl ?_
  refine k_sld (i := (((i : Nat) : Int) + 1)) (pc1 := 1916) dL_law_1915 rfl rfl (by omega) (by omega) hN9 (k_val (v' := .int (iI (kScF G (i + 1)))) (by rw [show ((((i : Nat) : Int) + 1)).toNat = i + 1 by omega]) ?_)
  refine k_aload_n (pc1 := 1917) dL_law_1916 rfl rfl ?_
  refine k_iload (pc1 := 1919) dL_law_1917 rfl rfl ?_
  refine k_iconst (pc1 := 1920) dL_law_1919 rfl ?_
  refine k_iadd (a := ((i : Nat) : Int)) (b := 2) (pc1 := 1921) dL_law_1920 rfl ?_
  refine k_sld (i := (((i : Nat) : Int) + 2)) (pc1 := 1922) dL_law_1921 rfl rfl (by omega) (by omega) hN9 (k_val (v' := .int (iI (kScF G (i + 2)))) (by rw [show ((((i : Nat) : Int) + 2)).toNat = i + 2 by omega]) ?_)
  refine k_aload_n (pc1 := 1923) dL_law_1922 rfl rfl ?_
  refine k_callSX dL_law_1923 rfl rfl lk_RL_227 o_L_longestFree (as := [.ref pl, .int (iI (kScF G (i + 1))), .int (iI (kScF G (i + 2))), .ref ol]) rfl rfl (w_L_longestFree hl hC (hsr _) (hsr _) hq.2.2.2.1 hq.2.2.1.2.2.2.1) (by decide) (by decide) (by omega) (by omega) (k8 rfl) (fun v h1 hv => ?_) (fun E h9 z => z.elim)
  obtain ⟨hv1, ⟨F1, hO1, hX1⟩, γ1, A1, hC1, hO2, hfr1⟩ := hv
  subst hv1
  refine k_st (st' := [.int (iI ((TlongestFree f (kScF G (i + 1)) (kScF G (i + 2))).1))]) rfl ?_
  obtain ⟨hM1, ht1, hD1⟩ := l9_call hq hC1 hO1 hO2 hfr1
  refine k_istore (pc1 := 1928) dL_law_1926 rfl (by decide) (k_loc (L' := [some (.ref (kScB G)), some (.ref pl), some (.ref o), some (.ref ol), some (.ref od), some (.int (iI ((i : Nat) : Int))), some (.int (iI ((TlongestFree f (kScF G (i + 1)) (kScF G (i + 2))).1))), none, none]) rfl ?_)
  refine k_aload_n (pc1 := 1929) dL_law_1928 rfl rfl ?_
  refine k_aload_n (pc1 := 1930) dL_law_1929 rfl rfl ?_
  refine k_iload (pc1 := 1932) dL_law_1930 rfl rfl ?_
  refine k_iconst (pc1 := 1933) dL_law_1932 rfl ?_
  refine k_iadd (a := ((i : Nat) : Int)) (b := 1) (pc1 := 1934) dL_law_1933 rfl ?_
  refine k_sld (i := (((i : Nat) : Int) + 1)) (pc1 := 1935) dL_law_1934 rfl rfl (by omega) (by omega) hN9 (k_val (v' := .int (iI (kScF G (i + 1)))) (by rw [show ((((i : Nat) : Int) + 1)).toNat = i + 1 by omega]) ?_)
  refine k_aload_n (pc1 := 1936) dL_law_1935 rfl rfl ?_
  refine k_iload (pc1 := 1938) dL_law_1936 rfl rfl ?_
  refine k_iconst (pc1 := 1939) dL_law_1938 rfl ?_
  refine k_iadd (a := ((i : Nat) : Int)) (b := 2) (pc1 := 1940) dL_law_1939 rfl ?_
  refine k_sld (i := (((i : Nat) : Int) + 2)) (pc1 := 1941) dL_law_1940 rfl rfl (by omega) (by omega) hN9 (k_val (v' := .int (iI (kScF G (i + 2)))) (by rw [show ((((i : Nat) : Int) + 2)).toNat = i + 2 by omega]) ?_)
  refine k_callV dL_law_1941 rfl lk_RL_229 o_X6_longestFree (as := [.int (iI (kScF G (i + 1))), .int (iI (kScF G (i + 2)))]) rfl rfl hM1.1 rfl rfl (w_X6_longestFree hl hM1 hC.2.2 (kScF G (i + 1)) (kScF G (i + 2)) (hsr _) (hsr _)) (by decide) (by decide) (Nat.zero_le _) (Nat.zero_le _) (k8 rfl) (fun v h2 hv => ?_) (fun E h9 z => z.elim)
  obtain ⟨hv1, hM2, hF2⟩ := hv
  rw [hv1]
  refine k_st (st' := [.int (iI ((TlongestFree f (kScF G (i + 1)) (kScF G (i + 2))).2.1))]) rfl ?_
  have hst9 := l9_ref hC1 hM1 ht1 hO1 hD1 hM2 hF2.w
  refine k_istore (pc1 := 1946) dL_law_1944 rfl (by decide) (k_loc (L' := [some (.ref (kScB G)), some (.ref pl), some (.ref o), some (.ref ol), some (.ref od), some (.int (iI ((i : Nat) : Int))), some (.int (iI ((TlongestFree f (kScF G (i + 1)) (kScF G (i + 2))).1))), some (.int (iI ((TlongestFree f (kScF G (i + 1)) (kScF G (i + 2))).2.1))), none]) rfl ?_)
  refine k_aload_n (pc1 := 1947) dL_law_1946 rfl rfl ?_
  refine k_callVP dL_law_1947 rfl lk_RL_142 o_X6_thrown (w_thr hl hM2) (as := []) hM2.1 rfl rfl rfl rfl (by decide) (by decide) (k8 rfl) ?_
  refine k_iload (pc1 := 1952) dL_law_1950 rfl rfl ?_
  refine k_icmp_eq (a := (TlongestFree f (kScF G (i + 1)) (kScF G (i + 2))).1) (b := (TlongestFree f (kScF G (i + 1)) (kScF G (i + 2))).1) dL_law_1952 rfl (tgt := 1957) rfl (by omega) (by omega) (fun _ => ?_) (fun c => absurd rfl c)
  refine k_iload (pc1 := 1959) dL_law_1957 rfl rfl ?_
  refine k_if_ne (a := (TlongestFree f (kScF G (i + 1)) (kScF G (i + 2))).1) dL_law_1959 rfl (tgt := 1974) rfl (by omega) (fun c1959 : (TlongestFree f (kScF G (i + 1)) (kScF G (i + 2))).1 ≠ 0 => ?_) (fun c1959 : (TlongestFree f (kScF G (i + 1)) (kScF G (i + 2))).1 = 0 => ?_)
  · skip
    refine k_goto dL_law_1974 (tgt := 2523) rfl ?_
    refine k_forget 6 (k_loc (L' := [some (.ref (kScB G)), some (.ref pl), some (.ref o), some (.ref ol), some (.ref od), some (.int (iI ((i : Nat) : Int))), none, some (.int (iI ((TlongestFree f (kScF G (i + 1)) (kScF G (i + 2))).2.1))), none]) rfl ?_)
    refine k_forget 7 (k_loc (L' := [some (.ref (kScB G)), some (.ref pl), some (.ref o), some (.ref ol), some (.ref od), some (.int (iI ((i : Nat) : Int))), none, none, none]) rfl ?_)
    exact k_widen (by omega) (by omega) (IH _ _ _ _ _ _ _ hst9 hco2)
  · skip
    refine k_aload_n (pc1 := 1963) dL_law_1962 rfl rfl ?_
    refine k_iconst (pc1 := 1964) dL_law_1963 rfl ?_
    refine k_lald (i := 0) (pc1 := 1965) dL_law_1964 rfl hst9.2.2.2.1 (by decide) (by decide) (by decide) (k_val (v' := .long (Int32.toInt64 (iI (TlongestFree f (kScF G (i + 1)) (kScF G (i + 2))).2.1))) (congrArg Value.long (hX1 (by omega))) ?_)
    refine k_iload (pc1 := 1967) dL_law_1965 rfl rfl ?_
    refine k_i2l (pc1 := 1968) dL_law_1967 rfl ?_
    refine k_lcmpE (pc1 := 1969) dL_law_1968 rfl (by first | rfl | (rw [if_pos (by omega)]; done) | (rw [if_neg (by omega)]; done) | (rw [if_pos (by omega)]; rfl) | (rw [if_neg (by omega)]; rfl)) ?_
    refine k_if_eq (a := 0) dL_law_1969 rfl (tgt := 1974) rfl (by decide) (fun _ => ?_) (fun c => absurd c (by decide))
    refine k_goto dL_law_1974 (tgt := 2523) rfl ?_
    refine k_forget 6 (k_loc (L' := [some (.ref (kScB G)), some (.ref pl), some (.ref o), some (.ref ol), some (.ref od), some (.int (iI ((i : Nat) : Int))), none, some (.int (iI ((TlongestFree f (kScF G (i + 1)) (kScF G (i + 2))).2.1))), none]) rfl ?_)
    refine k_forget 7 (k_loc (L' := [some (.ref (kScB G)), some (.ref pl), some (.ref o), some (.ref ol), some (.ref od), some (.int (iI ((i : Nat) : Int))), none, none, none]) rfl ?_)
    exact k_widen (by omega) (by omega) (IH _ _ _ _ _ _ _ hst9 hco2)
theorem lc_firstCommon {l : Launch} {G : kG} {h : kAH} (hl : l.stackTraces = false) {pl o g r ol od : Nat} {γ : kGh} {A : kAb} {f : Nat → Int} {c9 : Int} {F9 : Nat → Int64} {D9 : Nat → UInt64} (hq : kLs9 G h pl o g r ol od γ A f c9 F9 D9) (hnx9 : f 2 < 1000000) (hsr : ∀ j : Nat, -2147483648 ≤ kScF G j ∧ kScF G j < 2147483648) {i : Nat} (hi6 : i + 6 ≤ kScL G) (hN9 : kScL G ≤ 1000000) {Φ : Option Value → kAH → Prop} {k n : Nat} (IH : ∀ (h' : kAH) (γ' : kGh) (A' : kAb) (f' : Nat → Int) (c' : Int) (F' : Nat → Int64) (D' : Nat → UInt64), kLs9 G h' pl o g r ol od γ' A' f' c' F' D' → f' 2 ≤ f 2 + 1 → kW l G m_L_law 12 Φ kNo k n 2523 [some (.ref (kScB G)), some (.ref pl), some (.ref o), some (.ref ol), some (.ref od), some (.int (iI ((i : Nat) : Int))), none, none, none] [] h') : kW l G m_L_law 12 Φ kNo (k + 40) (n + 4800) 1977 [some (.ref (kScB G)), some (.ref pl), some (.ref o), some (.ref ol), some (.ref od), some (.int (iI ((i : Nat) : Int))), none, none, none] [] h := by
  have hC := hq.1
  obtain ⟨hco0, hco1, hco2⟩ : kCo f (TfirstCommon f (kScF G (i + 1)) (kScF G (i + 2)) (kScF G (i + 3))) := co_firstCommon (kScF G (i + 1)) (kScF G (i + 2)) (kScF G (i + 3))
  refine k_aload_n (pc1 := 1978) dL_law_1977 rfl rfl ?_
  refine k_aload_n (pc1 := 1979) dL_law_1978 rfl rfl ?_
  refine k_iload (pc1 := 1981) dL_law_1979 rfl rfl ?_
  refine k_iconst (pc1 := 1982) dL_law_1981 rfl ?_
  refine k_iadd (a := ((i : Nat) : Int)) (b := 1) (pc1 := 1983) dL_law_1982 rfl ?_
  refine k_sld (i := (((i : Nat) : Int) + 1)) (pc1 := 1984) dL_law_1983 rfl rfl (by omega) (by omega) hN9 (k_val (v' := .int (iI (kScF G (i + 1)))) (by rw [show ((((i : Nat) : Int) + 1)).toNat = i + 1 by omega]) ?_)
  refine k_aload_n (pc1 := 1985) dL_law_1984 rfl rfl ?_
  refine k_iload (pc1 := 1987) dL_law_1985 rfl rfl ?_
  refine k_iconst (pc1 := 1988) dL_law_1987 rfl ?_
  refine k_iadd (a := ((i : Nat) : Int)) (b := 2) (pc1 := 1989) dL_law_1988 rfl ?_
  refine k_sld (i := (((i : Nat) : Int) + 2)) (pc1 := 1990) dL_law_1989 rfl rfl (by omega) (by omega) hN9 (k_val (v' := .int (iI (kScF G (i + 2)))) (by rw [show ((((i : Nat) : Int) + 2)).toNat = i + 2 by omega]) ?_)
  refine k_aload_n (pc1 := 1991) dL_law_1990 rfl rfl ?_
  refine k_iload (pc1 := 1993) dL_law_1991 rfl rfl ?_
  refine k_iconst (pc1 := 1994) dL_law_1993 rfl ?_
  refine k_iadd (a := ((i : Nat) : Int)) (b := 3) (pc1 := 1995) dL_law_1994 rfl ?_
  refine k_sld (i := (((i : Nat) : Int) + 3)) (pc1 := 1996) dL_law_1995 rfl rfl (by omega) (by omega) hN9 (k_val (v' := .int (iI (kScF G (i + 3)))) (by rw [show ((((i : Nat) : Int) + 3)).toNat = i + 3 by omega]) ?_)
  refine k_aload_n (pc1 := 1997) dL_law_1996 rfl rfl ?_
  refine k_callSX dL_law_1997 rfl rfl lk_RL_230 o_L_firstCommon (as := [.ref pl, .int (iI (kScF G (i + 1))), .int (iI (kScF G (i + 2))), .int (iI (kScF G (i + 3))), .ref ol]) rfl rfl (w_L_firstCommon hl hC (hsr _) (hsr _) (hsr _) hq.2.2.2.1 hq.2.2.1.2.2.2.1) (by decide) (by decide) (by omega) (by omega) (k8 rfl) (fun v h1 hv => ?_) (fun E h9 z => z.elim)
  obtain ⟨hv1, ⟨F1, hO1, hX1⟩, γ1, A1, hC1, hO2, hfr1⟩ := hv
  subst hv1
  refine k_st (st' := [.int (iI ((TfirstCommon f (kScF G (i + 1)) (kScF G (i + 2)) (kScF G (i + 3))).1))]) rfl ?_
  obtain ⟨hM1, ht1, hD1⟩ := l9_call hq hC1 hO1 hO2 hfr1
  refine k_istore (pc1 := 2002) dL_law_2000 rfl (by decide) (k_loc (L' := [some (.ref (kScB G)), some (.ref pl), some (.ref o), some (.ref ol), some (.ref od), some (.int (iI ((i : Nat) : Int))), some (.int (iI ((TfirstCommon f (kScF G (i + 1)) (kScF G (i + 2)) (kScF G (i + 3))).1))), none, none]) rfl ?_)
  refine k_aload_n (pc1 := 2003) dL_law_2002 rfl rfl ?_
  refine k_aload_n (pc1 := 2004) dL_law_2003 rfl rfl ?_
  refine k_iload (pc1 := 2006) dL_law_2004 rfl rfl ?_
  refine k_iconst (pc1 := 2007) dL_law_2006 rfl ?_
  refine k_iadd (a := ((i : Nat) : Int)) (b := 1) (pc1 := 2008) dL_law_2007 rfl ?_
  refine k_sld (i := (((i : Nat) : Int) + 1)) (pc1 := 2009) dL_law_2008 rfl rfl (by omega) (by omega) hN9 (k_val (v' := .int (iI (kScF G (i + 1)))) (by rw [show ((((i : Nat) : Int) + 1)).toNat = i + 1 by omega]) ?_)
  refine k_aload_n (pc1 := 2010) dL_law_2009 rfl rfl ?_
  refine k_iload (pc1 := 2012) dL_law_2010 rfl rfl ?_
  refine k_iconst (pc1 := 2013) dL_law_2012 rfl ?_
  refine k_iadd (a := ((i : Nat) : Int)) (b := 2) (pc1 := 2014) dL_law_2013 rfl ?_
  refine k_sld (i := (((i : Nat) : Int) + 2)) (pc1 := 2015) dL_law_2014 rfl rfl (by omega) (by omega) hN9 (k_val (v' := .int (iI (kScF G (i + 2)))) (by rw [show ((((i : Nat) : Int) + 2)).toNat = i + 2 by omega]) ?_)
  refine k_aload_n (pc1 := 2016) dL_law_2015 rfl rfl ?_
  refine k_iload (pc1 := 2018) dL_law_2016 rfl rfl ?_
  refine k_iconst (pc1 := 2019) dL_law_2018 rfl ?_
  refine k_iadd (a := ((i : Nat) : Int)) (b := 3) (pc1 := 2020) dL_law_2019 rfl ?_
  refine k_sld (i := (((i : Nat) : Int) + 3)) (pc1 := 2021) dL_law_2020 rfl rfl (by omega) (by omega) hN9 (k_val (v' := .int (iI (kScF G (i + 3)))) (by rw [show ((((i : Nat) : Int) + 3)).toNat = i + 3 by omega]) ?_)
  refine k_callV dL_law_2021 rfl lk_RL_232 o_X6_firstCommon (as := [.int (iI (kScF G (i + 1))), .int (iI (kScF G (i + 2))), .int (iI (kScF G (i + 3)))]) rfl rfl hM1.1 rfl rfl (w_X6_firstCommon hl hM1 hC.2.2 (kScF G (i + 1)) (kScF G (i + 2)) (kScF G (i + 3)) (hsr _) (hsr _) (hsr _)) (by decide) (by decide) (Nat.zero_le _) (Nat.zero_le _) (k8 rfl) (fun v h2 hv => ?_) (fun E h9 z => z.elim)
  obtain ⟨hv1, hM2, hF2⟩ := hv
  rw [hv1]
  refine k_st (st' := [.int (iI ((TfirstCommon f (kScF G (i + 1)) (kScF G (i + 2)) (kScF G (i + 3))).2.1))]) rfl ?_
  have hst9 := l9_ref hC1 hM1 ht1 hO1 hD1 hM2 hF2.w
  refine k_istore (pc1 := 2026) dL_law_2024 rfl (by decide) (k_loc (L' := [some (.ref (kScB G)), some (.ref pl), some (.ref o), some (.ref ol), some (.ref od), some (.int (iI ((i : Nat) : Int))), some (.int (iI ((TfirstCommon f (kScF G (i + 1)) (kScF G (i + 2)) (kScF G (i + 3))).1))), some (.int (iI ((TfirstCommon f (kScF G (i + 1)) (kScF G (i + 2)) (kScF G (i + 3))).2.1))), none]) rfl ?_)
  refine k_aload_n (pc1 := 2027) dL_law_2026 rfl rfl ?_
  refine k_callVP dL_law_2027 rfl lk_RL_142 o_X6_thrown (w_thr hl hM2) (as := []) hM2.1 rfl rfl rfl rfl (by decide) (by decide) (k8 rfl) ?_
  refine k_iload (pc1 := 2032) dL_law_2030 rfl rfl ?_
  refine k_icmp_eq (a := (TfirstCommon f (kScF G (i + 1)) (kScF G (i + 2)) (kScF G (i + 3))).1) (b := (TfirstCommon f (kScF G (i + 1)) (kScF G (i + 2)) (kScF G (i + 3))).1) dL_law_2032 rfl (tgt := 2037) rfl (by omega) (by omega) (fun _ => ?_) (fun c => absurd rfl c)
  refine k_iload (pc1 := 2039) dL_law_2037 rfl rfl ?_
  refine k_if_ne (a := (TfirstCommon f (kScF G (i + 1)) (kScF G (i + 2)) (kScF G (i + 3))).1) dL_law_2039 rfl (tgt := 2054) rfl (by omega) (fun c2039 : (TfirstCommon f (kScF G (i + 1)) (kScF G (i + 2)) (kScF G (i + 3))).1 ≠ 0 => ?_) (fun c2039 : (TfirstCommon f (kScF G (i + 1)) (kScF G (i + 2)) (kScF G (i + 3))).1 = 0 => ?_)
  · skip
    refine k_goto dL_law_2054 (tgt := 2523) rfl ?_
    refine k_forget 6 (k_loc (L' := [some (.ref (kScB G)), some (.ref pl), some (.ref o), some (.ref ol), some (.ref od), some (.int (iI ((i : Nat) : Int))), none, some (.int (iI ((TfirstCommon f (kScF G (i + 1)) (kScF G (i + 2)) (kScF G (i + 3))).2.1))), none]) rfl ?_)
    refine k_forget 7 (k_loc (L' := [some (.ref (kScB G)), some (.ref pl), some (.ref o), some (.ref ol), some (.ref od), some (.int (iI ((i : Nat) : Int))), none, none, none]) rfl ?_)
    exact k_widen (by omega) (by omega) (IH _ _ _ _ _ _ _ hst9 hco2)
  · skip
    refine k_aload_n (pc1 := 2043) dL_law_2042 rfl rfl ?_
    refine k_iconst (pc1 := 2044) dL_law_2043 rfl ?_
    refine k_lald (i := 0) (pc1 := 2045) dL_law_2044 rfl hst9.2.2.2.1 (by decide) (by decide) (by decide) (k_val (v' := .long (Int32.toInt64 (iI (TfirstCommon f (kScF G (i + 1)) (kScF G (i + 2)) (kScF G (i + 3))).2.1))) (congrArg Value.long (hX1 (by omega))) ?_)
    refine k_iload (pc1 := 2047) dL_law_2045 rfl rfl ?_
    refine k_i2l (pc1 := 2048) dL_law_2047 rfl ?_
    refine k_lcmpE (pc1 := 2049) dL_law_2048 rfl (by first | rfl | (rw [if_pos (by omega)]; done) | (rw [if_neg (by omega)]; done) | (rw [if_pos (by omega)]; rfl) | (rw [if_neg (by omega)]; rfl)) ?_
    refine k_if_eq (a := 0) dL_law_2049 rfl (tgt := 2054) rfl (by decide) (fun _ => ?_) (fun c => absurd c (by decide))
    refine k_goto dL_law_2054 (tgt := 2523) rfl ?_
    refine k_forget 6 (k_loc (L' := [some (.ref (kScB G)), some (.ref pl), some (.ref o), some (.ref ol), some (.ref od), some (.int (iI ((i : Nat) : Int))), none, some (.int (iI ((TfirstCommon f (kScF G (i + 1)) (kScF G (i + 2)) (kScF G (i + 3))).2.1))), none]) rfl ?_)
    refine k_forget 7 (k_loc (L' := [some (.ref (kScB G)), some (.ref pl), some (.ref o), some (.ref ol), some (.ref od), some (.int (iI ((i : Nat) : Int))), none, none, none]) rfl ?_)
    exact k_widen (by omega) (by omega) (IH _ _ _ _ _ _ _ hst9 hco2)
theorem lc_commonCount {l : Launch} {G : kG} {h : kAH} (hl : l.stackTraces = false) {pl o g r ol od : Nat} {γ : kGh} {A : kAb} {f : Nat → Int} {c9 : Int} {F9 : Nat → Int64} {D9 : Nat → UInt64} (hq : kLs9 G h pl o g r ol od γ A f c9 F9 D9) (hnx9 : f 2 < 1000000) (hsr : ∀ j : Nat, -2147483648 ≤ kScF G j ∧ kScF G j < 2147483648) {i : Nat} (hi6 : i + 6 ≤ kScL G) (hN9 : kScL G ≤ 1000000) {Φ : Option Value → kAH → Prop} {k n : Nat} (IH : ∀ (h' : kAH) (γ' : kGh) (A' : kAb) (f' : Nat → Int) (c' : Int) (F' : Nat → Int64) (D' : Nat → UInt64), kLs9 G h' pl o g r ol od γ' A' f' c' F' D' → f' 2 ≤ f 2 + 1 → kW l G m_L_law 12 Φ kNo k n 2523 [some (.ref (kScB G)), some (.ref pl), some (.ref o), some (.ref ol), some (.ref od), some (.int (iI ((i : Nat) : Int))), none, none, none] [] h') : kW l G m_L_law 12 Φ kNo (k + 40) (n + 4800) 2057 [some (.ref (kScB G)), some (.ref pl), some (.ref o), some (.ref ol), some (.ref od), some (.int (iI ((i : Nat) : Int))), none, none, none] [] h := by
  have hC := hq.1
  obtain ⟨hco0, hco1, hco2⟩ : kCo f (TcommonCount f (kScF G (i + 1)) (kScF G (i + 2)) (kScF G (i + 3))) := co_commonCount (kScF G (i + 1)) (kScF G (i + 2)) (kScF G (i + 3))
  refine k_aload_n (pc1 := 2058) dL_law_2057 rfl rfl ?_
  refine k_aload_n (pc1 := 2059) dL_law_2058 rfl rfl ?_
  refine k_iload (pc1 := 2061) dL_law_2059 rfl rfl ?_
  refine k_iconst (pc1 := 2062) dL_law_2061 rfl ?_
  refine k_iadd (a := ((i : Nat) : Int)) (b := 1) (pc1 := 2063) dL_law_2062 rfl ?_
  refine k_sld (i := (((i : Nat) : Int) + 1)) (pc1 := 2064) dL_law_2063 rfl rfl (by omega) (by omega) hN9 (k_val (v' := .int (iI (kScF G (i + 1)))) (by rw [show ((((i : Nat) : Int) + 1)).toNat = i + 1 by omega]) ?_)
  refine k_aload_n (pc1 := 2065) dL_law_2064 rfl rfl ?_
  refine k_iload (pc1 := 2067) dL_law_2065 rfl rfl ?_
  refine k_iconst (pc1 := 2068) dL_law_2067 rfl ?_
  refine k_iadd (a := ((i : Nat) : Int)) (b := 2) (pc1 := 2069) dL_law_2068 rfl ?_
  refine k_sld (i := (((i : Nat) : Int) + 2)) (pc1 := 2070) dL_law_2069 rfl rfl (by omega) (by omega) hN9 (k_val (v' := .int (iI (kScF G (i + 2)))) (by rw [show ((((i : Nat) : Int) + 2)).toNat = i + 2 by omega]) ?_)
  refine k_aload_n (pc1 := 2071) dL_law_2070 rfl rfl ?_
  refine k_iload (pc1 := 2073) dL_law_2071 rfl rfl ?_
  refine k_iconst (pc1 := 2074) dL_law_2073 rfl ?_
  refine k_iadd (a := ((i : Nat) : Int)) (b := 3) (pc1 := 2075) dL_law_2074 rfl ?_
  refine k_sld (i := (((i : Nat) : Int) + 3)) (pc1 := 2076) dL_law_2075 rfl rfl (by omega) (by omega) hN9 (k_val (v' := .int (iI (kScF G (i + 3)))) (by rw [show ((((i : Nat) : Int) + 3)).toNat = i + 3 by omega]) ?_)
  refine k_aload_n (pc1 := 2077) dL_law_2076 rfl rfl ?_
  refine k_callSX dL_law_2077 rfl rfl lk_RL_233 o_L_commonCount (as := [.ref pl, .int (iI (kScF G (i + 1))), .int (iI (kScF G (i + 2))), .int (iI (kScF G (i + 3))), .ref ol]) rfl rfl (w_L_commonCount hl hC (hsr _) (hsr _) (hsr _) hq.2.2.2.1 hq.2.2.1.2.2.2.1) (by decide) (by decide) (by omega) (by omega) (k8 rfl) (fun v h1 hv => ?_) (fun E h9 z => z.elim)
  obtain ⟨hv1, ⟨F1, hO1, hX1⟩, γ1, A1, hC1, hO2, hfr1⟩ := hv
  subst hv1
  refine k_st (st' := [.int (iI ((TcommonCount f (kScF G (i + 1)) (kScF G (i + 2)) (kScF G (i + 3))).1))]) rfl ?_
  obtain ⟨hM1, ht1, hD1⟩ := l9_call hq hC1 hO1 hO2 hfr1
  refine k_istore (pc1 := 2082) dL_law_2080 rfl (by decide) (k_loc (L' := [some (.ref (kScB G)), some (.ref pl), some (.ref o), some (.ref ol), some (.ref od), some (.int (iI ((i : Nat) : Int))), some (.int (iI ((TcommonCount f (kScF G (i + 1)) (kScF G (i + 2)) (kScF G (i + 3))).1))), none, none]) rfl ?_)
  refine k_aload_n (pc1 := 2083) dL_law_2082 rfl rfl ?_
  refine k_aload_n (pc1 := 2084) dL_law_2083 rfl rfl ?_
  refine k_iload (pc1 := 2086) dL_law_2084 rfl rfl ?_
  refine k_iconst (pc1 := 2087) dL_law_2086 rfl ?_
  refine k_iadd (a := ((i : Nat) : Int)) (b := 1) (pc1 := 2088) dL_law_2087 rfl ?_
  refine k_sld (i := (((i : Nat) : Int) + 1)) (pc1 := 2089) dL_law_2088 rfl rfl (by omega) (by omega) hN9 (k_val (v' := .int (iI (kScF G (i + 1)))) (by rw [show ((((i : Nat) : Int) + 1)).toNat = i + 1 by omega]) ?_)
  refine k_aload_n (pc1 := 2090) dL_law_2089 rfl rfl ?_
  refine k_iload (pc1 := 2092) dL_law_2090 rfl rfl ?_
  refine k_iconst (pc1 := 2093) dL_law_2092 rfl ?_
  refine k_iadd (a := ((i : Nat) : Int)) (b := 2) (pc1 := 2094) dL_law_2093 rfl ?_
  refine k_sld (i := (((i : Nat) : Int) + 2)) (pc1 := 2095) dL_law_2094 rfl rfl (by omega) (by omega) hN9 (k_val (v' := .int (iI (kScF G (i + 2)))) (by rw [show ((((i : Nat) : Int) + 2)).toNat = i + 2 by omega]) ?_)
  refine k_aload_n (pc1 := 2096) dL_law_2095 rfl rfl ?_
  refine k_iload (pc1 := 2098) dL_law_2096 rfl rfl ?_
  refine k_iconst (pc1 := 2099) dL_law_2098 rfl ?_
  refine k_iadd (a := ((i : Nat) : Int)) (b := 3) (pc1 := 2100) dL_law_2099 rfl ?_
  refine k_sld (i := (((i : Nat) : Int) + 3)) (pc1 := 2101) dL_law_2100 rfl rfl (by omega) (by omega) hN9 (k_val (v' := .int (iI (kScF G (i + 3)))) (by rw [show ((((i : Nat) : Int) + 3)).toNat = i + 3 by omega]) ?_)
  refine k_callV dL_law_2101 rfl lk_RL_235 o_X6_commonCount (as := [.int (iI (kScF G (i + 1))), .int (iI (kScF G (i + 2))), .int (iI (kScF G (i + 3)))]) rfl rfl hM1.1 rfl rfl (w_X6_commonCount hl hM1 hC.2.2 (kScF G (i + 1)) (kScF G (i + 2)) (kScF G (i + 3)) (hsr _) (hsr _) (hsr _)) (by decide) (by decide) (Nat.zero_le _) (Nat.zero_le _) (k8 rfl) (fun v h2 hv => ?_) (fun E h9 z => z.elim)
  obtain ⟨hv1, hM2, hF2⟩ := hv
  rw [hv1]
  refine k_st (st' := [.int (iI ((TcommonCount f (kScF G (i + 1)) (kScF G (i + 2)) (kScF G (i + 3))).2.1))]) rfl ?_
  have hst9 := l9_ref hC1 hM1 ht1 hO1 hD1 hM2 hF2.w
  refine k_istore (pc1 := 2106) dL_law_2104 rfl (by decide) (k_loc (L' := [some (.ref (kScB G)), some (.ref pl), some (.ref o), some (.ref ol), some (.ref od), some (.int (iI ((i : Nat) : Int))), some (.int (iI ((TcommonCount f (kScF G (i + 1)) (kScF G (i + 2)) (kScF G (i + 3))).1))), some (.int (iI ((TcommonCount f (kScF G (i + 1)) (kScF G (i + 2)) (kScF G (i + 3))).2.1))), none]) rfl ?_)
  refine k_aload_n (pc1 := 2107) dL_law_2106 rfl rfl ?_
  refine k_callVP dL_law_2107 rfl lk_RL_142 o_X6_thrown (w_thr hl hM2) (as := []) hM2.1 rfl rfl rfl rfl (by decide) (by decide) (k8 rfl) ?_
  refine k_iload (pc1 := 2112) dL_law_2110 rfl rfl ?_
  refine k_icmp_eq (a := (TcommonCount f (kScF G (i + 1)) (kScF G (i + 2)) (kScF G (i + 3))).1) (b := (TcommonCount f (kScF G (i + 1)) (kScF G (i + 2)) (kScF G (i + 3))).1) dL_law_2112 rfl (tgt := 2117) rfl (by omega) (by omega) (fun _ => ?_) (fun c => absurd rfl c)
  refine k_iload (pc1 := 2119) dL_law_2117 rfl rfl ?_
  refine k_if_ne (a := (TcommonCount f (kScF G (i + 1)) (kScF G (i + 2)) (kScF G (i + 3))).1) dL_law_2119 rfl (tgt := 2134) rfl (by omega) (fun c2119 : (TcommonCount f (kScF G (i + 1)) (kScF G (i + 2)) (kScF G (i + 3))).1 ≠ 0 => ?_) (fun c2119 : (TcommonCount f (kScF G (i + 1)) (kScF G (i + 2)) (kScF G (i + 3))).1 = 0 => ?_)
  · skip
    refine k_goto dL_law_2134 (tgt := 2523) rfl ?_
    refine k_forget 6 (k_loc (L' := [some (.ref (kScB G)), some (.ref pl), some (.ref o), some (.ref ol), some (.ref od), some (.int (iI ((i : Nat) : Int))), none, some (.int (iI ((TcommonCount f (kScF G (i + 1)) (kScF G (i + 2)) (kScF G (i + 3))).2.1))), none]) rfl ?_)
    refine k_forget 7 (k_loc (L' := [some (.ref (kScB G)), some (.ref pl), some (.ref o), some (.ref ol), some (.ref od), some (.int (iI ((i : Nat) : Int))), none, none, none]) rfl ?_)
    exact k_widen (by omega) (by omega) (IH _ _ _ _ _ _ _ hst9 hco2)
  · skip
    refine k_aload_n (pc1 := 2123) dL_law_2122 rfl rfl ?_
    refine k_iconst (pc1 := 2124) dL_law_2123 rfl ?_
    refine k_lald (i := 0) (pc1 := 2125) dL_law_2124 rfl hst9.2.2.2.1 (by decide) (by decide) (by decide) (k_val (v' := .long (Int32.toInt64 (iI (TcommonCount f (kScF G (i + 1)) (kScF G (i + 2)) (kScF G (i + 3))).2.1))) (congrArg Value.long (hX1 (by omega))) ?_)
    refine k_iload (pc1 := 2127) dL_law_2125 rfl rfl ?_
    refine k_i2l (pc1 := 2128) dL_law_2127 rfl ?_
    refine k_lcmpE (pc1 := 2129) dL_law_2128 rfl (by first | rfl | (rw [if_pos (by omega)]; done) | (rw [if_neg (by omega)]; done) | (rw [if_pos (by omega)]; rfl) | (rw [if_neg (by omega)]; rfl)) ?_
    refine k_if_eq (a := 0) dL_law_2129 rfl (tgt := 2134) rfl (by decide) (fun _ => ?_) (fun c => absurd c (by decide))
    refine k_goto dL_law_2134 (tgt := 2523) rfl ?_
    refine k_forget 6 (k_loc (L' := [some (.ref (kScB G)), some (.ref pl), some (.ref o), some (.ref ol), some (.ref od), some (.int (iI ((i : Nat) : Int))), none, some (.int (iI ((TcommonCount f (kScF G (i + 1)) (kScF G (i + 2)) (kScF G (i + 3))).2.1))), none]) rfl ?_)
    refine k_forget 7 (k_loc (L' := [some (.ref (kScB G)), some (.ref pl), some (.ref o), some (.ref ol), some (.ref od), some (.int (iI ((i : Nat) : Int))), none, none, none]) rfl ?_)
    exact k_widen (by omega) (by omega) (IH _ _ _ _ _ _ _ hst9 hco2)
theorem lc_roomFor {l : Launch} {G : kG} {h : kAH} (hl : l.stackTraces = false) {pl o g r ol od : Nat} {γ : kGh} {A : kAb} {f : Nat → Int} {c9 : Int} {F9 : Nat → Int64} {D9 : Nat → UInt64} (hq : kLs9 G h pl o g r ol od γ A f c9 F9 D9) (hnx9 : f 2 < 1000000) (hsr : ∀ j : Nat, -2147483648 ≤ kScF G j ∧ kScF G j < 2147483648) {i : Nat} (hi6 : i + 6 ≤ kScL G) (hN9 : kScL G ≤ 1000000) {Φ : Option Value → kAH → Prop} {k n : Nat} (IH : ∀ (h' : kAH) (γ' : kGh) (A' : kAb) (f' : Nat → Int) (c' : Int) (F' : Nat → Int64) (D' : Nat → UInt64), kLs9 G h' pl o g r ol od γ' A' f' c' F' D' → f' 2 ≤ f 2 + 1 → kW l G m_L_law 12 Φ kNo k n 2523 [some (.ref (kScB G)), some (.ref pl), some (.ref o), some (.ref ol), some (.ref od), some (.int (iI ((i : Nat) : Int))), none, none, none] [] h') : kW l G m_L_law 12 Φ kNo (k + 40) (n + 4800) 2137 [some (.ref (kScB G)), some (.ref pl), some (.ref o), some (.ref ol), some (.ref od), some (.int (iI ((i : Nat) : Int))), none, none, none] [] h := by
  have hC := hq.1
  obtain ⟨hco0, hco1, hco2⟩ : kCo f (TroomFor f (kScF G (i + 1)) (kScF G (i + 2)) (kScF G (i + 3)) (kScF G (i + 4))) := co_roomFor (kScF G (i + 1)) (kScF G (i + 2)) (kScF G (i + 3)) (kScF G (i + 4))
  refine k_aload_n (pc1 := 2138) dL_law_2137 rfl rfl ?_
  refine k_aload_n (pc1 := 2139) dL_law_2138 rfl rfl ?_
  refine k_iload (pc1 := 2141) dL_law_2139 rfl rfl ?_
  refine k_iconst (pc1 := 2142) dL_law_2141 rfl ?_
  refine k_iadd (a := ((i : Nat) : Int)) (b := 1) (pc1 := 2143) dL_law_2142 rfl ?_
  refine k_sld (i := (((i : Nat) : Int) + 1)) (pc1 := 2144) dL_law_2143 rfl rfl (by omega) (by omega) hN9 (k_val (v' := .int (iI (kScF G (i + 1)))) (by rw [show ((((i : Nat) : Int) + 1)).toNat = i + 1 by omega]) ?_)
  refine k_aload_n (pc1 := 2145) dL_law_2144 rfl rfl ?_
  refine k_iload (pc1 := 2147) dL_law_2145 rfl rfl ?_
  refine k_iconst (pc1 := 2148) dL_law_2147 rfl ?_
  refine k_iadd (a := ((i : Nat) : Int)) (b := 2) (pc1 := 2149) dL_law_2148 rfl ?_
  refine k_sld (i := (((i : Nat) : Int) + 2)) (pc1 := 2150) dL_law_2149 rfl rfl (by omega) (by omega) hN9 (k_val (v' := .int (iI (kScF G (i + 2)))) (by rw [show ((((i : Nat) : Int) + 2)).toNat = i + 2 by omega]) ?_)
  refine k_aload_n (pc1 := 2151) dL_law_2150 rfl rfl ?_
  refine k_iload (pc1 := 2153) dL_law_2151 rfl rfl ?_
  refine k_iconst (pc1 := 2154) dL_law_2153 rfl ?_
  refine k_iadd (a := ((i : Nat) : Int)) (b := 3) (pc1 := 2155) dL_law_2154 rfl ?_
  refine k_sld (i := (((i : Nat) : Int) + 3)) (pc1 := 2156) dL_law_2155 rfl rfl (by omega) (by omega) hN9 (k_val (v' := .int (iI (kScF G (i + 3)))) (by rw [show ((((i : Nat) : Int) + 3)).toNat = i + 3 by omega]) ?_)
  refine k_aload_n (pc1 := 2157) dL_law_2156 rfl rfl ?_
  refine k_iload (pc1 := 2159) dL_law_2157 rfl rfl ?_
  refine k_iconst (pc1 := 2160) dL_law_2159 rfl ?_
  refine k_iadd (a := ((i : Nat) : Int)) (b := 4) (pc1 := 2161) dL_law_2160 rfl ?_
  refine k_sld (i := (((i : Nat) : Int) + 4)) (pc1 := 2162) dL_law_2161 rfl rfl (by omega) (by omega) hN9 (k_val (v' := .int (iI (kScF G (i + 4)))) (by rw [show ((((i : Nat) : Int) + 4)).toNat = i + 4 by omega]) ?_)
  refine k_aload_n (pc1 := 2163) dL_law_2162 rfl rfl ?_
  refine k_callSX dL_law_2163 rfl rfl lk_RL_236 o_L_roomFor (as := [.ref pl, .int (iI (kScF G (i + 1))), .int (iI (kScF G (i + 2))), .int (iI (kScF G (i + 3))), .int (iI (kScF G (i + 4))), .ref ol]) rfl rfl (w_L_roomFor hl hC (hsr _) (hsr _) (hsr _) (hsr _) hq.2.2.2.1 hq.2.2.1.2.2.2.1) (by decide) (by decide) (by omega) (by omega) (k8 rfl) (fun v h1 hv => ?_) (fun E h9 z => z.elim)
  obtain ⟨hv1, ⟨F1, hO1, hX1⟩, γ1, A1, hC1, hO2, hfr1⟩ := hv
  subst hv1
  refine k_st (st' := [.int (iI ((TroomFor f (kScF G (i + 1)) (kScF G (i + 2)) (kScF G (i + 3)) (kScF G (i + 4))).1))]) rfl ?_
  obtain ⟨hM1, ht1, hD1⟩ := l9_call hq hC1 hO1 hO2 hfr1
  refine k_istore (pc1 := 2168) dL_law_2166 rfl (by decide) (k_loc (L' := [some (.ref (kScB G)), some (.ref pl), some (.ref o), some (.ref ol), some (.ref od), some (.int (iI ((i : Nat) : Int))), some (.int (iI ((TroomFor f (kScF G (i + 1)) (kScF G (i + 2)) (kScF G (i + 3)) (kScF G (i + 4))).1))), none, none]) rfl ?_)
  refine k_aload_n (pc1 := 2169) dL_law_2168 rfl rfl ?_
  refine k_aload_n (pc1 := 2170) dL_law_2169 rfl rfl ?_
  refine k_iload (pc1 := 2172) dL_law_2170 rfl rfl ?_
  refine k_iconst (pc1 := 2173) dL_law_2172 rfl ?_
  refine k_iadd (a := ((i : Nat) : Int)) (b := 1) (pc1 := 2174) dL_law_2173 rfl ?_
  refine k_sld (i := (((i : Nat) : Int) + 1)) (pc1 := 2175) dL_law_2174 rfl rfl (by omega) (by omega) hN9 (k_val (v' := .int (iI (kScF G (i + 1)))) (by rw [show ((((i : Nat) : Int) + 1)).toNat = i + 1 by omega]) ?_)
  refine k_aload_n (pc1 := 2176) dL_law_2175 rfl rfl ?_
  refine k_iload (pc1 := 2178) dL_law_2176 rfl rfl ?_
  refine k_iconst (pc1 := 2179) dL_law_2178 rfl ?_
  refine k_iadd (a := ((i : Nat) : Int)) (b := 2) (pc1 := 2180) dL_law_2179 rfl ?_
  refine k_sld (i := (((i : Nat) : Int) + 2)) (pc1 := 2181) dL_law_2180 rfl rfl (by omega) (by omega) hN9 (k_val (v' := .int (iI (kScF G (i + 2)))) (by rw [show ((((i : Nat) : Int) + 2)).toNat = i + 2 by omega]) ?_)
  refine k_aload_n (pc1 := 2182) dL_law_2181 rfl rfl ?_
  refine k_iload (pc1 := 2184) dL_law_2182 rfl rfl ?_
  refine k_iconst (pc1 := 2185) dL_law_2184 rfl ?_
  refine k_iadd (a := ((i : Nat) : Int)) (b := 3) (pc1 := 2186) dL_law_2185 rfl ?_
  refine k_sld (i := (((i : Nat) : Int) + 3)) (pc1 := 2187) dL_law_2186 rfl rfl (by omega) (by omega) hN9 (k_val (v' := .int (iI (kScF G (i + 3)))) (by rw [show ((((i : Nat) : Int) + 3)).toNat = i + 3 by omega]) ?_)
  refine k_aload_n (pc1 := 2188) dL_law_2187 rfl rfl ?_
  refine k_iload (pc1 := 2190) dL_law_2188 rfl rfl ?_
  refine k_iconst (pc1 := 2191) dL_law_2190 rfl ?_
  refine k_iadd (a := ((i : Nat) : Int)) (b := 4) (pc1 := 2192) dL_law_2191 rfl ?_
  refine k_sld (i := (((i : Nat) : Int) + 4)) (pc1 := 2193) dL_law_2192 rfl rfl (by omega) (by omega) hN9 (k_val (v' := .int (iI (kScF G (i + 4)))) (by rw [show ((((i : Nat) : Int) + 4)).toNat = i + 4 by omega]) ?_)
  refine k_callV dL_law_2193 rfl lk_RL_238 o_X6_roomFor (as := [.int (iI (kScF G (i + 1))), .int (iI (kScF G (i + 2))), .int (iI (kScF G (i + 3))), .int (iI (kScF G (i + 4)))]) rfl rfl hM1.1 rfl rfl (w_X6_roomFor hl hM1 hC.2.2 (kScF G (i + 1)) (kScF G (i + 2)) (kScF G (i + 3)) (kScF G (i + 4)) (hsr _) (hsr _) (hsr _) (hsr _)) (by decide) (by decide) (Nat.zero_le _) (Nat.zero_le _) (k8 rfl) (fun v h2 hv => ?_) (fun E h9 z => z.elim)
  obtain ⟨hv1, hM2, hF2⟩ := hv
  rw [hv1]
  refine k_st (st' := [.int (iI ((TroomFor f (kScF G (i + 1)) (kScF G (i + 2)) (kScF G (i + 3)) (kScF G (i + 4))).2.1))]) rfl ?_
  have hst9 := l9_ref hC1 hM1 ht1 hO1 hD1 hM2 hF2.w
  refine k_istore (pc1 := 2198) dL_law_2196 rfl (by decide) (k_loc (L' := [some (.ref (kScB G)), some (.ref pl), some (.ref o), some (.ref ol), some (.ref od), some (.int (iI ((i : Nat) : Int))), some (.int (iI ((TroomFor f (kScF G (i + 1)) (kScF G (i + 2)) (kScF G (i + 3)) (kScF G (i + 4))).1))), some (.int (iI ((TroomFor f (kScF G (i + 1)) (kScF G (i + 2)) (kScF G (i + 3)) (kScF G (i + 4))).2.1))), none]) rfl ?_)
  refine k_aload_n (pc1 := 2199) dL_law_2198 rfl rfl ?_
  refine k_callVP dL_law_2199 rfl lk_RL_142 o_X6_thrown (w_thr hl hM2) (as := []) hM2.1 rfl rfl rfl rfl (by decide) (by decide) (k8 rfl) ?_
  refine k_iload (pc1 := 2204) dL_law_2202 rfl rfl ?_
  refine k_icmp_eq (a := (TroomFor f (kScF G (i + 1)) (kScF G (i + 2)) (kScF G (i + 3)) (kScF G (i + 4))).1) (b := (TroomFor f (kScF G (i + 1)) (kScF G (i + 2)) (kScF G (i + 3)) (kScF G (i + 4))).1) dL_law_2204 rfl (tgt := 2209) rfl (by omega) (by omega) (fun _ => ?_) (fun c => absurd rfl c)
  refine k_iload (pc1 := 2211) dL_law_2209 rfl rfl ?_
  refine k_if_ne (a := (TroomFor f (kScF G (i + 1)) (kScF G (i + 2)) (kScF G (i + 3)) (kScF G (i + 4))).1) dL_law_2211 rfl (tgt := 2226) rfl (by omega) (fun c2211 : (TroomFor f (kScF G (i + 1)) (kScF G (i + 2)) (kScF G (i + 3)) (kScF G (i + 4))).1 ≠ 0 => ?_) (fun c2211 : (TroomFor f (kScF G (i + 1)) (kScF G (i + 2)) (kScF G (i + 3)) (kScF G (i + 4))).1 = 0 => ?_)
  · skip
    refine k_goto dL_law_2226 (tgt := 2523) rfl ?_
    refine k_forget 6 (k_loc (L' := [some (.ref (kScB G)), some (.ref pl), some (.ref o), some (.ref ol), some (.ref od), some (.int (iI ((i : Nat) : Int))), none, some (.int (iI ((TroomFor f (kScF G (i + 1)) (kScF G (i + 2)) (kScF G (i + 3)) (kScF G (i + 4))).2.1))), none]) rfl ?_)
    refine k_forget 7 (k_loc (L' := [some (.ref (kScB G)), some (.ref pl), some (.ref o), some (.ref ol), some (.ref od), some (.int (iI ((i : Nat) : Int))), none, none, none]) rfl ?_)
    exact k_widen (by omega) (by omega) (IH _ _ _ _ _ _ _ hst9 hco2)
  · skip
    refine k_aload_n (pc1 := 2215) dL_law_2214 rfl rfl ?_
    refine k_iconst (pc1 := 2216) dL_law_2215 rfl ?_
    refine k_lald (i := 0) (pc1 := 2217) dL_law_2216 rfl hst9.2.2.2.1 (by decide) (by decide) (by decide) (k_val (v' := .long (Int32.toInt64 (iI (TroomFor f (kScF G (i + 1)) (kScF G (i + 2)) (kScF G (i + 3)) (kScF G (i + 4))).2.1))) (congrArg Value.long (hX1 (by omega))) ?_)
    refine k_iload (pc1 := 2219) dL_law_2217 rfl rfl ?_
    refine k_i2l (pc1 := 2220) dL_law_2219 rfl ?_
    refine k_lcmpE (pc1 := 2221) dL_law_2220 rfl (by first | rfl | (rw [if_pos (by omega)]; done) | (rw [if_neg (by omega)]; done) | (rw [if_pos (by omega)]; rfl) | (rw [if_neg (by omega)]; rfl)) ?_
    refine k_if_eq (a := 0) dL_law_2221 rfl (tgt := 2226) rfl (by decide) (fun _ => ?_) (fun c => absurd c (by decide))
    refine k_goto dL_law_2226 (tgt := 2523) rfl ?_
    refine k_forget 6 (k_loc (L' := [some (.ref (kScB G)), some (.ref pl), some (.ref o), some (.ref ol), some (.ref od), some (.int (iI ((i : Nat) : Int))), none, some (.int (iI ((TroomFor f (kScF G (i + 1)) (kScF G (i + 2)) (kScF G (i + 3)) (kScF G (i + 4))).2.1))), none]) rfl ?_)
    refine k_forget 7 (k_loc (L' := [some (.ref (kScB G)), some (.ref pl), some (.ref o), some (.ref ol), some (.ref od), some (.int (iI ((i : Nat) : Int))), none, none, none]) rfl ?_)
    exact k_widen (by omega) (by omega) (IH _ _ _ _ _ _ _ hst9 hco2)
theorem lc_usedTimes {l : Launch} {G : kG} {h : kAH} (hl : l.stackTraces = false) {pl o g r ol od : Nat} {γ : kGh} {A : kAb} {f : Nat → Int} {c9 : Int} {F9 : Nat → Int64} {D9 : Nat → UInt64} (hq : kLs9 G h pl o g r ol od γ A f c9 F9 D9) (hnx9 : f 2 < 1000000) (hsr : ∀ j : Nat, -2147483648 ≤ kScF G j ∧ kScF G j < 2147483648) {i : Nat} (hi6 : i + 6 ≤ kScL G) (hN9 : kScL G ≤ 1000000) {Φ : Option Value → kAH → Prop} {k n : Nat} (IH : ∀ (h' : kAH) (γ' : kGh) (A' : kAb) (f' : Nat → Int) (c' : Int) (F' : Nat → Int64) (D' : Nat → UInt64), kLs9 G h' pl o g r ol od γ' A' f' c' F' D' → f' 2 ≤ f 2 + 1 → kW l G m_L_law 12 Φ kNo k n 2523 [some (.ref (kScB G)), some (.ref pl), some (.ref o), some (.ref ol), some (.ref od), some (.int (iI ((i : Nat) : Int))), none, none, none] [] h') : kW l G m_L_law 12 Φ kNo (k + 40) (n + 4800) 2229 [some (.ref (kScB G)), some (.ref pl), some (.ref o), some (.ref ol), some (.ref od), some (.int (iI ((i : Nat) : Int))), none, none, none] [] h := by
  have hC := hq.1
  obtain ⟨hco0, hco1, hco2⟩ : kCo f (TusedTimes f (kScF G (i + 1)) (kScF G (i + 2))) := co_usedTimes (kScF G (i + 1)) (kScF G (i + 2))
  refine k_aload_n (pc1 := 2230) dL_law_2229 rfl rfl ?_
  refine k_aload_n (pc1 := 2231) dL_law_2230 rfl rfl ?_
  refine k_iload (pc1 := 2233) dL_law_2231 rfl rfl ?_
  refine k_iconst (pc1 := 2234) dL_law_2233 rfl ?_
  refine k_iadd (a := ((i : Nat) : Int)) (b := 1) (pc1 := 2235) dL_law_2234 rfl ?_
  refine k_sld (i := (((i : Nat) : Int) + 1)) (pc1 := 2236) dL_law_2235 rfl rfl (by omega) (by omega) hN9 (k_val (v' := .int (iI (kScF G (i + 1)))) (by rw [show ((((i : Nat) : Int) + 1)).toNat = i + 1 by omega]) ?_)
  refine k_aload_n (pc1 := 2237) dL_law_2236 rfl rfl ?_
  refine k_iload (pc1 := 2239) dL_law_2237 rfl rfl ?_
  refine k_iconst (pc1 := 2240) dL_law_2239 rfl ?_
  refine k_iadd (a := ((i : Nat) : Int)) (b := 2) (pc1 := 2241) dL_law_2240 rfl ?_
  refine k_sld (i := (((i : Nat) : Int) + 2)) (pc1 := 2242) dL_law_2241 rfl rfl (by omega) (by omega) hN9 (k_val (v' := .int (iI (kScF G (i + 2)))) (by rw [show ((((i : Nat) : Int) + 2)).toNat = i + 2 by omega]) ?_)
  refine k_aload_n (pc1 := 2243) dL_law_2242 rfl rfl ?_
  refine k_callSX dL_law_2243 rfl rfl lk_RL_239 o_L_usedTimes (as := [.ref pl, .int (iI (kScF G (i + 1))), .int (iI (kScF G (i + 2))), .ref ol]) rfl rfl (w_L_usedTimes hl hC (hsr _) (hsr _) hq.2.2.2.1 hq.2.2.1.2.2.2.1) (by decide) (by decide) (by omega) (by omega) (k8 rfl) (fun v h1 hv => ?_) (fun E h9 z => z.elim)
  obtain ⟨hv1, ⟨F1, hO1, hX1⟩, γ1, A1, hC1, hO2, hfr1⟩ := hv
  subst hv1
  refine k_st (st' := [.int (iI ((TusedTimes f (kScF G (i + 1)) (kScF G (i + 2))).1))]) rfl ?_
  obtain ⟨hM1, ht1, hD1⟩ := l9_call hq hC1 hO1 hO2 hfr1
  refine k_istore (pc1 := 2248) dL_law_2246 rfl (by decide) (k_loc (L' := [some (.ref (kScB G)), some (.ref pl), some (.ref o), some (.ref ol), some (.ref od), some (.int (iI ((i : Nat) : Int))), some (.int (iI ((TusedTimes f (kScF G (i + 1)) (kScF G (i + 2))).1))), none, none]) rfl ?_)
  refine k_aload_n (pc1 := 2249) dL_law_2248 rfl rfl ?_
  refine k_aload_n (pc1 := 2250) dL_law_2249 rfl rfl ?_
  refine k_iload (pc1 := 2252) dL_law_2250 rfl rfl ?_
  refine k_iconst (pc1 := 2253) dL_law_2252 rfl ?_
  refine k_iadd (a := ((i : Nat) : Int)) (b := 1) (pc1 := 2254) dL_law_2253 rfl ?_
  refine k_sld (i := (((i : Nat) : Int) + 1)) (pc1 := 2255) dL_law_2254 rfl rfl (by omega) (by omega) hN9 (k_val (v' := .int (iI (kScF G (i + 1)))) (by rw [show ((((i : Nat) : Int) + 1)).toNat = i + 1 by omega]) ?_)
  refine k_aload_n (pc1 := 2256) dL_law_2255 rfl rfl ?_
  refine k_iload (pc1 := 2258) dL_law_2256 rfl rfl ?_
  refine k_iconst (pc1 := 2259) dL_law_2258 rfl ?_
  refine k_iadd (a := ((i : Nat) : Int)) (b := 2) (pc1 := 2260) dL_law_2259 rfl ?_
  refine k_sld (i := (((i : Nat) : Int) + 2)) (pc1 := 2261) dL_law_2260 rfl rfl (by omega) (by omega) hN9 (k_val (v' := .int (iI (kScF G (i + 2)))) (by rw [show ((((i : Nat) : Int) + 2)).toNat = i + 2 by omega]) ?_)
  refine k_callV dL_law_2261 rfl lk_RL_241 o_X6_usedTimes (as := [.int (iI (kScF G (i + 1))), .int (iI (kScF G (i + 2)))]) rfl rfl hM1.1 rfl rfl (w_X6_usedTimes hl hM1 hC.2.2 (kScF G (i + 1)) (kScF G (i + 2)) (hsr _) (hsr _)) (by decide) (by decide) (Nat.zero_le _) (Nat.zero_le _) (k8 rfl) (fun v h2 hv => ?_) (fun E h9 z => z.elim)
  obtain ⟨hv1, hM2, hF2⟩ := hv
  rw [hv1]
  refine k_st (st' := [.int (iI ((TusedTimes f (kScF G (i + 1)) (kScF G (i + 2))).2.1))]) rfl ?_
  have hst9 := l9_ref hC1 hM1 ht1 hO1 hD1 hM2 hF2.w
  refine k_istore (pc1 := 2266) dL_law_2264 rfl (by decide) (k_loc (L' := [some (.ref (kScB G)), some (.ref pl), some (.ref o), some (.ref ol), some (.ref od), some (.int (iI ((i : Nat) : Int))), some (.int (iI ((TusedTimes f (kScF G (i + 1)) (kScF G (i + 2))).1))), some (.int (iI ((TusedTimes f (kScF G (i + 1)) (kScF G (i + 2))).2.1))), none]) rfl ?_)
  refine k_aload_n (pc1 := 2267) dL_law_2266 rfl rfl ?_
  refine k_callVP dL_law_2267 rfl lk_RL_142 o_X6_thrown (w_thr hl hM2) (as := []) hM2.1 rfl rfl rfl rfl (by decide) (by decide) (k8 rfl) ?_
  refine k_iload (pc1 := 2272) dL_law_2270 rfl rfl ?_
  refine k_icmp_eq (a := (TusedTimes f (kScF G (i + 1)) (kScF G (i + 2))).1) (b := (TusedTimes f (kScF G (i + 1)) (kScF G (i + 2))).1) dL_law_2272 rfl (tgt := 2277) rfl (by omega) (by omega) (fun _ => ?_) (fun c => absurd rfl c)
  refine k_iload (pc1 := 2279) dL_law_2277 rfl rfl ?_
  refine k_if_ne (a := (TusedTimes f (kScF G (i + 1)) (kScF G (i + 2))).1) dL_law_2279 rfl (tgt := 2294) rfl (by omega) (fun c2279 : (TusedTimes f (kScF G (i + 1)) (kScF G (i + 2))).1 ≠ 0 => ?_) (fun c2279 : (TusedTimes f (kScF G (i + 1)) (kScF G (i + 2))).1 = 0 => ?_)
  · skip
    refine k_goto dL_law_2294 (tgt := 2523) rfl ?_
    refine k_forget 6 (k_loc (L' := [some (.ref (kScB G)), some (.ref pl), some (.ref o), some (.ref ol), some (.ref od), some (.int (iI ((i : Nat) : Int))), none, some (.int (iI ((TusedTimes f (kScF G (i + 1)) (kScF G (i + 2))).2.1))), none]) rfl ?_)
    refine k_forget 7 (k_loc (L' := [some (.ref (kScB G)), some (.ref pl), some (.ref o), some (.ref ol), some (.ref od), some (.int (iI ((i : Nat) : Int))), none, none, none]) rfl ?_)
    exact k_widen (by omega) (by omega) (IH _ _ _ _ _ _ _ hst9 hco2)
  · skip
    refine k_aload_n (pc1 := 2283) dL_law_2282 rfl rfl ?_
    refine k_iconst (pc1 := 2284) dL_law_2283 rfl ?_
    refine k_lald (i := 0) (pc1 := 2285) dL_law_2284 rfl hst9.2.2.2.1 (by decide) (by decide) (by decide) (k_val (v' := .long (Int32.toInt64 (iI (TusedTimes f (kScF G (i + 1)) (kScF G (i + 2))).2.1))) (congrArg Value.long (hX1 (by omega))) ?_)
    refine k_iload (pc1 := 2287) dL_law_2285 rfl rfl ?_
    refine k_i2l (pc1 := 2288) dL_law_2287 rfl ?_
    refine k_lcmpE (pc1 := 2289) dL_law_2288 rfl (by first | rfl | (rw [if_pos (by omega)]; done) | (rw [if_neg (by omega)]; done) | (rw [if_pos (by omega)]; rfl) | (rw [if_neg (by omega)]; rfl)) ?_
    refine k_if_eq (a := 0) dL_law_2289 rfl (tgt := 2294) rfl (by decide) (fun _ => ?_) (fun c => absurd c (by decide))
    refine k_goto dL_law_2294 (tgt := 2523) rfl ?_
    refine k_forget 6 (k_loc (L' := [some (.ref (kScB G)), some (.ref pl), some (.ref o), some (.ref ol), some (.ref od), some (.int (iI ((i : Nat) : Int))), none, some (.int (iI ((TusedTimes f (kScF G (i + 1)) (kScF G (i + 2))).2.1))), none]) rfl ?_)
    refine k_forget 7 (k_loc (L' := [some (.ref (kScB G)), some (.ref pl), some (.ref o), some (.ref ol), some (.ref od), some (.int (iI ((i : Nat) : Int))), none, none, none]) rfl ?_)
    exact k_widen (by omega) (by omega) (IH _ _ _ _ _ _ _ hst9 hco2)
theorem lc_walks {l : Launch} {G : kG} {h : kAH} (hl : l.stackTraces = false) {pl o g r ol od : Nat} {γ : kGh} {A : kAb} {f : Nat → Int} {c9 : Int} {F9 : Nat → Int64} {D9 : Nat → UInt64} (hq : kLs9 G h pl o g r ol od γ A f c9 F9 D9) (hnx9 : f 2 < 1000000) (hsr : ∀ j : Nat, -2147483648 ≤ kScF G j ∧ kScF G j < 2147483648) {i : Nat} (hi6 : i + 6 ≤ kScL G) (hN9 : kScL G ≤ 1000000) {Φ : Option Value → kAH → Prop} {k n : Nat} (IH : ∀ (h' : kAH) (γ' : kGh) (A' : kAb) (f' : Nat → Int) (c' : Int) (F' : Nat → Int64) (D' : Nat → UInt64), kLs9 G h' pl o g r ol od γ' A' f' c' F' D' → f' 2 ≤ f 2 + 1 → kW l G m_L_law 12 Φ kNo k n 2523 [some (.ref (kScB G)), some (.ref pl), some (.ref o), some (.ref ol), some (.ref od), some (.int (iI ((i : Nat) : Int))), none, none, none] [] h') : kW l G m_L_law 12 Φ kNo (k + 40) (n + 4800) 2297 [some (.ref (kScB G)), some (.ref pl), some (.ref o), some (.ref ol), some (.ref od), some (.int (iI ((i : Nat) : Int))), none, none, none] [] h := by
  have hC := hq.1
  obtain ⟨hco0, hco1, hco2⟩ : kCo f (Twalks f (kScF G (i + 1)) (kScF G (i + 2))) := co_walks (kScF G (i + 1)) (kScF G (i + 2))
  refine k_aload_n (pc1 := 2298) dL_law_2297 rfl rfl ?_
  refine k_aload_n (pc1 := 2299) dL_law_2298 rfl rfl ?_
  refine k_iload (pc1 := 2301) dL_law_2299 rfl rfl ?_
  refine k_iconst (pc1 := 2302) dL_law_2301 rfl ?_
  refine k_iadd (a := ((i : Nat) : Int)) (b := 1) (pc1 := 2303) dL_law_2302 rfl ?_
  refine k_sld (i := (((i : Nat) : Int) + 1)) (pc1 := 2304) dL_law_2303 rfl rfl (by omega) (by omega) hN9 (k_val (v' := .int (iI (kScF G (i + 1)))) (by rw [show ((((i : Nat) : Int) + 1)).toNat = i + 1 by omega]) ?_)
  refine k_aload_n (pc1 := 2305) dL_law_2304 rfl rfl ?_
  refine k_iload (pc1 := 2307) dL_law_2305 rfl rfl ?_
  refine k_iconst (pc1 := 2308) dL_law_2307 rfl ?_
  refine k_iadd (a := ((i : Nat) : Int)) (b := 2) (pc1 := 2309) dL_law_2308 rfl ?_
  refine k_sld (i := (((i : Nat) : Int) + 2)) (pc1 := 2310) dL_law_2309 rfl rfl (by omega) (by omega) hN9 (k_val (v' := .int (iI (kScF G (i + 2)))) (by rw [show ((((i : Nat) : Int) + 2)).toNat = i + 2 by omega]) ?_)
  refine k_aload_n (pc1 := 2311) dL_law_2310 rfl rfl ?_
  refine k_callSX dL_law_2311 rfl rfl lk_RL_242 o_L_walks (as := [.ref pl, .int (iI (kScF G (i + 1))), .int (iI (kScF G (i + 2))), .ref ol]) rfl rfl (w_L_walks hl hC (hsr _) (hsr _) hq.2.2.2.1 hq.2.2.1.2.2.2.1) (by decide) (by decide) (by omega) (by omega) (k8 rfl) (fun v h1 hv => ?_) (fun E h9 z => z.elim)
  obtain ⟨hv1, ⟨F1, hO1, hX1⟩, γ1, A1, hC1, hO2, hfr1⟩ := hv
  subst hv1
  refine k_st (st' := [.int (iI ((Twalks f (kScF G (i + 1)) (kScF G (i + 2))).1))]) rfl ?_
  obtain ⟨hM1, ht1, hD1⟩ := l9_call hq hC1 hO1 hO2 hfr1
  refine k_istore (pc1 := 2316) dL_law_2314 rfl (by decide) (k_loc (L' := [some (.ref (kScB G)), some (.ref pl), some (.ref o), some (.ref ol), some (.ref od), some (.int (iI ((i : Nat) : Int))), some (.int (iI ((Twalks f (kScF G (i + 1)) (kScF G (i + 2))).1))), none, none]) rfl ?_)
  refine k_aload_n (pc1 := 2317) dL_law_2316 rfl rfl ?_
  refine k_aload_n (pc1 := 2318) dL_law_2317 rfl rfl ?_
  refine k_iload (pc1 := 2320) dL_law_2318 rfl rfl ?_
  refine k_iconst (pc1 := 2321) dL_law_2320 rfl ?_
  refine k_iadd (a := ((i : Nat) : Int)) (b := 1) (pc1 := 2322) dL_law_2321 rfl ?_
  refine k_sld (i := (((i : Nat) : Int) + 1)) (pc1 := 2323) dL_law_2322 rfl rfl (by omega) (by omega) hN9 (k_val (v' := .int (iI (kScF G (i + 1)))) (by rw [show ((((i : Nat) : Int) + 1)).toNat = i + 1 by omega]) ?_)
  refine k_aload_n (pc1 := 2324) dL_law_2323 rfl rfl ?_
  refine k_iload (pc1 := 2326) dL_law_2324 rfl rfl ?_
  refine k_iconst (pc1 := 2327) dL_law_2326 rfl ?_
  refine k_iadd (a := ((i : Nat) : Int)) (b := 2) (pc1 := 2328) dL_law_2327 rfl ?_
  refine k_sld (i := (((i : Nat) : Int) + 2)) (pc1 := 2329) dL_law_2328 rfl rfl (by omega) (by omega) hN9 (k_val (v' := .int (iI (kScF G (i + 2)))) (by rw [show ((((i : Nat) : Int) + 2)).toNat = i + 2 by omega]) ?_)
  refine k_callV dL_law_2329 rfl lk_RL_244 o_X6_walks (as := [.int (iI (kScF G (i + 1))), .int (iI (kScF G (i + 2)))]) rfl rfl hM1.1 rfl rfl (w_X6_walks hl hM1 hC.2.2 (kScF G (i + 1)) (kScF G (i + 2)) (hsr _) (hsr _)) (by decide) (by decide) (Nat.zero_le _) (Nat.zero_le _) (k8 rfl) (fun v h2 hv => ?_) (fun E h9 z => z.elim)
  obtain ⟨hv1, hM2, hF2⟩ := hv
  rw [hv1]
  refine k_st (st' := [.int (iI ((Twalks f (kScF G (i + 1)) (kScF G (i + 2))).2.1))]) rfl ?_
  have hst9 := l9_ref hC1 hM1 ht1 hO1 hD1 hM2 hF2.w
  refine k_istore (pc1 := 2334) dL_law_2332 rfl (by decide) (k_loc (L' := [some (.ref (kScB G)), some (.ref pl), some (.ref o), some (.ref ol), some (.ref od), some (.int (iI ((i : Nat) : Int))), some (.int (iI ((Twalks f (kScF G (i + 1)) (kScF G (i + 2))).1))), some (.int (iI ((Twalks f (kScF G (i + 1)) (kScF G (i + 2))).2.1))), none]) rfl ?_)
  refine k_aload_n (pc1 := 2335) dL_law_2334 rfl rfl ?_
  refine k_callVP dL_law_2335 rfl lk_RL_142 o_X6_thrown (w_thr hl hM2) (as := []) hM2.1 rfl rfl rfl rfl (by decide) (by decide) (k8 rfl) ?_
  refine k_iload (pc1 := 2340) dL_law_2338 rfl rfl ?_
  refine k_icmp_eq (a := (Twalks f (kScF G (i + 1)) (kScF G (i + 2))).1) (b := (Twalks f (kScF G (i + 1)) (kScF G (i + 2))).1) dL_law_2340 rfl (tgt := 2345) rfl (by omega) (by omega) (fun _ => ?_) (fun c => absurd rfl c)
  refine k_iload (pc1 := 2347) dL_law_2345 rfl rfl ?_
  refine k_if_ne (a := (Twalks f (kScF G (i + 1)) (kScF G (i + 2))).1) dL_law_2347 rfl (tgt := 2362) rfl (by omega) (fun c2347 : (Twalks f (kScF G (i + 1)) (kScF G (i + 2))).1 ≠ 0 => ?_) (fun c2347 : (Twalks f (kScF G (i + 1)) (kScF G (i + 2))).1 = 0 => ?_)
  · skip
    refine k_goto dL_law_2362 (tgt := 2523) rfl ?_
    refine k_forget 6 (k_loc (L' := [some (.ref (kScB G)), some (.ref pl), some (.ref o), some (.ref ol), some (.ref od), some (.int (iI ((i : Nat) : Int))), none, some (.int (iI ((Twalks f (kScF G (i + 1)) (kScF G (i + 2))).2.1))), none]) rfl ?_)
    refine k_forget 7 (k_loc (L' := [some (.ref (kScB G)), some (.ref pl), some (.ref o), some (.ref ol), some (.ref od), some (.int (iI ((i : Nat) : Int))), none, none, none]) rfl ?_)
    exact k_widen (by omega) (by omega) (IH _ _ _ _ _ _ _ hst9 hco2)
  · skip
    refine k_aload_n (pc1 := 2351) dL_law_2350 rfl rfl ?_
    refine k_iconst (pc1 := 2352) dL_law_2351 rfl ?_
    refine k_lald (i := 0) (pc1 := 2353) dL_law_2352 rfl hst9.2.2.2.1 (by decide) (by decide) (by decide) (k_val (v' := .long (Int32.toInt64 (iI (Twalks f (kScF G (i + 1)) (kScF G (i + 2))).2.1))) (congrArg Value.long (hX1 (by omega))) ?_)
    refine k_iload (pc1 := 2355) dL_law_2353 rfl rfl ?_
    refine k_i2l (pc1 := 2356) dL_law_2355 rfl ?_
    refine k_lcmpE (pc1 := 2357) dL_law_2356 rfl (by first | rfl | (rw [if_pos (by omega)]; done) | (rw [if_neg (by omega)]; done) | (rw [if_pos (by omega)]; rfl) | (rw [if_neg (by omega)]; rfl)) ?_
    refine k_if_eq (a := 0) dL_law_2357 rfl (tgt := 2362) rfl (by decide) (fun _ => ?_) (fun c => absurd c (by decide))
    refine k_goto dL_law_2362 (tgt := 2523) rfl ?_
    refine k_forget 6 (k_loc (L' := [some (.ref (kScB G)), some (.ref pl), some (.ref o), some (.ref ol), some (.ref od), some (.int (iI ((i : Nat) : Int))), none, some (.int (iI ((Twalks f (kScF G (i + 1)) (kScF G (i + 2))).2.1))), none]) rfl ?_)
    refine k_forget 7 (k_loc (L' := [some (.ref (kScB G)), some (.ref pl), some (.ref o), some (.ref ol), some (.ref od), some (.int (iI ((i : Nat) : Int))), none, none, none]) rfl ?_)
    exact k_widen (by omega) (by omega) (IH _ _ _ _ _ _ _ hst9 hco2)
