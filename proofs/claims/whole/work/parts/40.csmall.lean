/-! ===== the class: bits, slots, meetings, walked ===== -/
theorem k_callSNP {l : Launch} {G : kG} {y : kMR} {d : Nat} {Φ : Option Value → kAH → Prop} {Ψ : String → kAH → Prop} {k n pc : Nat} {L : List (Option Value)} {st rest : List Value} {h : kAH} {y' : kMR} {d' idx nA pc3 : Nat} {host : String} {as : List Value} {v : Value} (hd : decode y.2.1 pc = .ok (.invokestatic idx, 3)) (e3 : pc + 3 = pc3) (hlk : (y.1.cls, idx, y'.1, host) ∈ kNst) (hok : kOkS y' nA) (hM : kP l G y' d' as h v)
    (hh9 : y'.2.2.2.2 = []) (hnA : as.length = nA) (hst : st = as.reverse ++ rest) (hdd : d' < d) (hml9 : y'.2.2.1 ≤ 20) (hw : (rest.map fun v => v.category).sum ≤ 8)
    (kk : kW l G y d Φ Ψ k n pc3 L (v :: rest) h) : kW l G y d Φ Ψ k n pc L st h :=
  k_callSN hd e3 hh9 hlk hok hnA hst hM (fun E h' q => q.elim) hdd hml9 (Nat.zero_le _) (Nat.zero_le _) hw (fun v' h' q => by
    obtain ⟨rfl, rfl⟩ := q
    exact kk)
theorem kan_2p {q p : Nat} (hq : q < 64) (hp : p < 6) : ((kan q (2 ^ p) : Nat) : Int) ≠ 0 ↔ q.testBit p = true := by
  rw [kand_ne hq]
  constructor
  · rintro ⟨i, h1, h2, h3⟩
    rw [Nat.testBit_two_pow, decide_eq_true_eq] at h3
    subst h3
    exact h2
  · intro h
    exact ⟨p, hp, h, by rw [Nat.testBit_two_pow, decide_eq_true_eq]⟩
def exM (hst : Int) (ak no : Nat) : Nat := 2 ^ hst.toNat ||| kdf ak no
theorem exM_lt {hst : Int} {ak no : Nat} (h1 : 0 ≤ hst ∧ hst < 6) (h2 : ak < 64) : exM hst ak no < 64 := kor_lt (k2p_lt (by omega)) (kdf_lt h2)
theorem exM_bit {hst : Int} {ak no p : Nat} (h1 : 0 ≤ hst ∧ hst < 6) (h2 : ak < 64) : (exM hst ak no).testBit p = true ↔ (p : Int) = hst ∨ (ak.testBit p = true ∧ ¬ no.testBit p = true) := by
  unfold exM
  rw [Nat.testBit_or, Bool.or_eq_true, Nat.testBit_two_pow, decide_eq_true_eq, kdf_bit h2]
  constructor
  · rintro (h | h)
    · exact Or.inl (by omega)
    · exact Or.inr h
  · rintro (h | h)
    · exact Or.inl (by omega)
    · exact Or.inr h
theorem w_X5_bitOf {l : Launch} {G : kG} {h : kAH} (hl : l.stackTraces = false) (p : Int) (hp : 0 ≤ p ∧ p < 6) : kP l G m_X5_bitOf 1 [.int (iI p)] h (.int (iI (((2 ^ p.toNat) : Nat) : Int))) := by
  refine kC_of hl rfl rfl (Nat.le_of_ble_eq_true rfl) (L := [some (.int (iI p))]) rfl ?_
  refine k_iconst (pc1 := 1) dX5_bitOf_0 rfl ?_
  refine k_iload_n (pc1 := 2) dX5_bitOf_1 rfl rfl ?_
  refine k_ishl (pc1 := 3) dX5_bitOf_2 rfl (k_val (v' := .int (iI (((2 ^ p.toNat) : Nat) : Int))) (congrArg Value.int (iI_sh1i (by omega) (by omega))) ?_)
  exact k_iret dX5_bitOf_3 rfl rfl (kret rfl _)
theorem w_X5_holdsPerson {l : Launch} {G : kG} {h : kAH} (hl : l.stackTraces = false) (q : Nat) (p : Int) (hq : q < 64) (hp : 0 ≤ p ∧ p < 6) : kP l G m_X5_holdsPerson 2 [.int (iI ((q : Nat) : Int)), .int (iI p)] h (.int (iI (kB (q.testBit p.toNat = true)))) := by
  refine kC_of hl rfl rfl (Nat.le_of_ble_eq_true rfl) (L := [some (.int (iI ((q : Nat) : Int))), some (.int (iI p))]) rfl ?_
  refine k_iload_n (pc1 := 1) dX5_holdsPerson_0 rfl rfl ?_
  refine k_iload_n (pc1 := 2) dX5_holdsPerson_1 rfl rfl ?_
  refine k_callSP dX5_holdsPerson_2 rfl lk_RX5_78 o_X5_bitOf (w_X5_bitOf hl p ⟨by omega, by omega⟩) (as := [.int (iI p)]) rfl rfl rfl (by decide) (by decide) (k8 rfl) ?_
  refine k_iand (pc1 := 6) dX5_holdsPerson_5 rfl (k_val (v' := .int (iI (((kan q (2 ^ p.toNat)) : Nat) : Int))) (congrArg Value.int iI_and) ?_)
  have hkl : kan q (2 ^ p.toNat) < 64 := kan_lt hq
  refine k_if_eq (a := (((kan q (2 ^ p.toNat)) : Nat) : Int)) dX5_holdsPerson_6 rfl (tgt := 13) rfl (by omega) (fun c6 : (((kan q (2 ^ p.toNat)) : Nat) : Int) = 0 => ?_) (fun c6 : (((kan q (2 ^ p.toNat)) : Nat) : Int) ≠ 0 => ?_)
  · skip
    refine k_iconst (pc1 := 14) dX5_holdsPerson_13 rfl ?_
    exact k_iret dX5_holdsPerson_14 rfl rfl (kret (kB_f (by exact fun z => (kan_2p hq (by omega)).mpr z c6)).symm _)
  · skip
    refine k_iconst (pc1 := 10) dX5_holdsPerson_9 rfl ?_
    refine k_goto dX5_holdsPerson_10 (tgt := 14) rfl ?_
    exact k_iret dX5_holdsPerson_14 rfl rfl (kret (kB_t (by exact (kan_2p hq (by omega)).mp c6)).symm _)
theorem w_X5_lowestPerson {l : Launch} {G : kG} {h : kAH} (hl : l.stackTraces = false) (q : Nat) (hq : q < 64) (hx : ∃ p, p < 6 ∧ q.testBit p = true) : kP l G m_X5_lowestPerson 3 [.int (iI ((q : Nat) : Int))] h (.int (iI (kls (fun p => q.testBit p = true) 6))) := by
  refine kC_of hl rfl rfl (Nat.le_of_ble_eq_true rfl) (L := [some (.int (iI ((q : Nat) : Int))), none]) rfl ?_
  refine k_iconst (pc1 := 1) dX5_lowestPerson_0 rfl ?_
  refine k_istore_n (pc1 := 2) dX5_lowestPerson_1 rfl (by decide) (k_loc (L' := [some (.int (iI ((q : Nat) : Int))), some (.int (iI 0))]) rfl ?_)
  have hloop2 : ∀ (zz : Nat) (i : Nat), zz = 6 - i → (i ≤ 5) → (∀ j : Nat, j < i → ¬ q.testBit j = true) → kW l G m_X5_lowestPerson 3 (kPq (.int (iI (kls (fun p => q.testBit p = true) 6))) h) kNo 0 0 2 [some (.int (iI ((q : Nat) : Int))), some (.int (iI ((i : Nat) : Int)))] [] h := by
    intro zz
    induction zz using Nat.strongRecOn with
    | ind zz ih2 =>
    intro i hr2 hi hJ
    refine k_iload_n (pc1 := 3) dX5_lowestPerson_2 rfl rfl ?_
    refine k_iconst (pc1 := 4) dX5_lowestPerson_3 rfl ?_
    refine k_icmp_ge (a := ((i : Nat) : Int)) (b := 5) dX5_lowestPerson_4 rfl (tgt := 21) rfl (by omega) (by decide) (fun c4 : 5 ≤ ((i : Nat) : Int) => ?_) (fun c4 : ((i : Nat) : Int) < 5 => ?_)
    · skip
      refine k_iload_n (pc1 := 22) dX5_lowestPerson_21 rfl rfl ?_
      have z : q.testBit i = true := by
        first | exact c12 | (obtain ⟨p, hp, hb⟩ := hx; by_cases e : p < i; exact absurd hb (hJ p e); rw [show i = p by omega]; exact hb)
      exact k_iret dX5_lowestPerson_22 rfl rfl (kret (kls_at (by omega) z hJ).symm _)
    · skip
      refine k_iload_n (pc1 := 8) dX5_lowestPerson_7 rfl rfl ?_
      refine k_iload_n (pc1 := 9) dX5_lowestPerson_8 rfl rfl ?_
      refine k_callSP dX5_lowestPerson_9 rfl lk_RX5_150 o_X5_holdsPerson (w_X5_holdsPerson hl q ((i : Nat) : Int) (by first | omega | exact kmk_lt _ _ | assumption) ⟨by omega, by omega⟩) (as := [.int (iI ((q : Nat) : Int)), .int (iI ((i : Nat) : Int))]) rfl rfl rfl (by decide) (by decide) (k8 rfl) ?_
      refine k_if_ne (a := kB (Nat.testBit q i = true)) dX5_lowestPerson_12 rfl (tgt := 21) rfl (kB_r _) (fun c12 : kB (Nat.testBit q i = true) ≠ 0 => ?_) (fun c12 : kB (Nat.testBit q i = true) = 0 => ?_)
      · replace c12 : (Nat.testBit q i = true) := kB_nz.mp c12
        refine k_iload_n (pc1 := 22) dX5_lowestPerson_21 rfl rfl ?_
        have z : q.testBit i = true := by
          first | exact c12 | (obtain ⟨p, hp, hb⟩ := hx; by_cases e : p < i; exact absurd hb (hJ p e); rw [show i = p by omega]; exact hb)
        exact k_iret dX5_lowestPerson_22 rfl rfl (kret (kls_at (by omega) z hJ).symm _)
      · replace c12 : ¬(Nat.testBit q i = true) := kB_z.mp c12
        refine k_iinc (a := ((i : Nat) : Int)) (pc1 := 18) dX5_lowestPerson_15 rfl rfl (by decide) (k_loc (L' := [some (.int (iI ((q : Nat) : Int))), some (.int (iI (((i : Nat) : Int) + 1)))]) rfl ?_)
        refine k_goto dX5_lowestPerson_18 (tgt := 2) rfl ?_
        exact ih2 _ (by omega) (i + 1) rfl (by omega) (fun j hj => if e : j = i then (by subst e; exact c12) else hJ j (by omega))
  exact hloop2 _ 0 rfl (by omega) (fun j hj => absurd hj (by omega))
theorem w_X4_end {l : Launch} {G : kG} {h : kAH} (hl : l.stackTraces = false) {s : Nat} {k t n : Int} (hS : h s = some (.inr (8, [.int (iI k), .int (iI t), .int (iI n)]))) : kP l G m_X4_end 1 [.ref s] h (.int (iI (t + n))) := by
  refine kC_of hl rfl rfl (Nat.le_of_ble_eq_true rfl) (L := [some (.ref s)]) rfl ?_
  refine k_aload_n (pc1 := 1) dX4_end_0 rfl rfl ?_
  refine k_get (pc1 := 4) dX4_end_1 rfl fd_RX4_13 hS (v := .int (iI t)) rfl ?_
  refine k_aload_n (pc1 := 5) dX4_end_4 rfl rfl ?_
  refine k_get (pc1 := 8) dX4_end_5 rfl fd_RX4_16 hS (v := .int (iI n)) rfl ?_
  refine k_iadd (a := t) (b := n) (pc1 := 9) dX4_end_8 rfl ?_
  exact k_iret dX4_end_9 rfl rfl (kret rfl _)
theorem w_X4_holds {l : Launch} {G : kG} {h : kAH} (hl : l.stackTraces = false) {s : Nat} {k t n : Int} (hS : h s = some (.inr (8, [.int (iI k), .int (iI t), .int (iI n)]))) (x : Int) (rx : 0 ≤ x ∧ x ≤ 100) (rt : 0 ≤ t ∧ t ≤ 100) (rn : 0 ≤ n ∧ n ≤ 100) : kP l G m_X4_holds 2 [.ref s, .int (iI x)] h (.int (iI (kB (t ≤ x ∧ x < t + n)))) := by
  refine kC_of hl rfl rfl (Nat.le_of_ble_eq_true rfl) (L := [some (.ref s), some (.int (iI x))]) rfl ?_
  refine k_aload_n (pc1 := 1) dX4_holds_0 rfl rfl ?_
  refine k_get (pc1 := 4) dX4_holds_1 rfl fd_RX4_13 hS (v := .int (iI t)) rfl ?_
  refine k_iload_n (pc1 := 5) dX4_holds_4 rfl rfl ?_
  refine k_icmp_gt (a := t) (b := x) dX4_holds_5 rfl (tgt := 20) rfl (by omega) (by omega) (fun c5 : x < t => ?_) (fun c5 : t ≤ x => ?_)
  · skip
    refine k_iconst (pc1 := 21) dX4_holds_20 rfl ?_
    exact k_iret dX4_holds_21 rfl rfl (kret (kB_f (by omega)).symm _)
  · skip
    refine k_iload_n (pc1 := 9) dX4_holds_8 rfl rfl ?_
    refine k_aload_n (pc1 := 10) dX4_holds_9 rfl rfl ?_
    refine k_callVP dX4_holds_10 rfl lk_RX4_19 o_X4_end (w_X4_end hl hS) (as := []) hS rfl rfl rfl rfl (by decide) (by decide) (k8 rfl) ?_
    refine k_icmp_ge (a := x) (b := (t + n)) dX4_holds_13 rfl (tgt := 20) rfl (by omega) (by omega) (fun c13 : (t + n) ≤ x => ?_) (fun c13 : x < (t + n) => ?_)
    · skip
      refine k_iconst (pc1 := 21) dX4_holds_20 rfl ?_
      exact k_iret dX4_holds_21 rfl rfl (kret (kB_f (by omega)).symm _)
    · skip
      refine k_iconst (pc1 := 17) dX4_holds_16 rfl ?_
      refine k_goto dX4_holds_17 (tgt := 21) rfl ?_
      exact k_iret dX4_holds_21 rfl rfl (kret (kB_t (by omega)).symm _)
theorem w_X4_timesBetween {l : Launch} {G : kG} {h : kAH} (hl : l.stackTraces = false) {s : Nat} {k t n : Int} (hS : h s = some (.inr (8, [.int (iI k), .int (iI t), .int (iI n)]))) {s2 : Nat} {k2 t2 n2 : Int} (hS2 : h s2 = some (.inr (8, [.int (iI k2), .int (iI t2), .int (iI n2)]))) (rt : 0 ≤ t ∧ t ≤ 100) (rn : 0 ≤ n ∧ n ≤ 100) (rt2 : 0 ≤ t2 ∧ t2 ≤ 100) (rn2 : 0 ≤ n2 ∧ n2 ≤ 100) : kP l G m_X4_timesBetween 2 [.ref s, .ref s2] h (.int (iI (kI (t - (t2 + n2) < t2 - (t + n)) (t2 - (t + n)) (t - (t2 + n2))))) := by
  refine kC_of hl rfl rfl (Nat.le_of_ble_eq_true rfl) (L := [some (.ref s), some (.ref s2)]) rfl ?_
  refine k_aload_n (pc1 := 1) dX4_timesBetween_0 rfl rfl ?_
  refine k_get (pc1 := 4) dX4_timesBetween_1 rfl fd_RX4_13 hS (v := .int (iI t)) rfl ?_
  refine k_aload_n (pc1 := 5) dX4_timesBetween_4 rfl rfl ?_
  refine k_callVP dX4_timesBetween_5 rfl lk_RX4_19 o_X4_end (w_X4_end hl hS2) (as := []) hS2 rfl rfl rfl rfl (by decide) (by decide) (k8 rfl) ?_
  refine k_isub (a := t) (b := (t2 + n2)) (pc1 := 9) dX4_timesBetween_8 rfl ?_
  refine k_aload_n (pc1 := 10) dX4_timesBetween_9 rfl rfl ?_
  refine k_get (pc1 := 13) dX4_timesBetween_10 rfl fd_RX4_13 hS2 (v := .int (iI t2)) rfl ?_
  refine k_aload_n (pc1 := 14) dX4_timesBetween_13 rfl rfl ?_
  refine k_callVP dX4_timesBetween_14 rfl lk_RX4_19 o_X4_end (w_X4_end hl hS) (as := []) hS rfl rfl rfl rfl (by decide) (by decide) (k8 rfl) ?_
  refine k_isub (a := t2) (b := (t + n)) (pc1 := 18) dX4_timesBetween_17 rfl ?_
  refine k_max (a := (t - (t2 + n2))) (b := (t2 - (t + n))) dX4_timesBetween_18 rfl lk_RX4_23 (by omega) (by omega) (k8 rfl) ?_
  exact k_iret dX4_timesBetween_21 rfl rfl (kret rfl _)
theorem w_X2_expectedPeople {l : Launch} {G : kG} {h : kAH} (hl : l.stackTraces = false) {o dl : Nat} {num hst : Int} {ak ys no : Nat} (hO : h o = some (.inr (6, [.int (iI num), .int (iI hst), .int (iI ((ak : Nat) : Int)), .ref dl, .int (iI ((ys : Nat) : Int)), .int (iI ((no : Nat) : Int))]))) (hh : 0 ≤ hst ∧ hst < 6) (ha : ak < 64) (hy : ys < 64) (hn : no < 64) : kP l G m_X2_expectedPeople 2 [.ref o] h (.int (iI (((exM hst ak no) : Nat) : Int))) := by
  refine kC_of hl rfl rfl (Nat.le_of_ble_eq_true rfl) (L := [some (.ref o)]) rfl ?_
  refine k_aload_n (pc1 := 1) dX2_expectedPeople_0 rfl rfl ?_
  refine k_get (pc1 := 4) dX2_expectedPeople_1 rfl fd_RX2_15 hO (v := .int (iI hst)) rfl ?_
  refine k_callSNP dX2_expectedPeople_4 rfl ln_RX2_28 o_X5_bitOf (w_X5_bitOf hl hst ⟨by omega, by omega⟩) (as := [.int (iI hst)]) rfl rfl rfl (by decide) (by decide) (k8 rfl) ?_
  refine k_aload_n (pc1 := 8) dX2_expectedPeople_7 rfl rfl ?_
  refine k_get (pc1 := 11) dX2_expectedPeople_8 rfl fd_RX2_18 hO (v := .int (iI ((ak : Nat) : Int))) rfl ?_
  refine k_aload_n (pc1 := 12) dX2_expectedPeople_11 rfl rfl ?_
  refine k_get (pc1 := 15) dX2_expectedPeople_12 rfl fd_RX2_32 hO (v := .int (iI ((no : Nat) : Int))) rfl ?_
  refine k_iconst (pc1 := 16) dX2_expectedPeople_15 rfl ?_
  refine k_ixor (pc1 := 17) dX2_expectedPeople_16 rfl ?_
  refine k_iand (pc1 := 18) dX2_expectedPeople_17 rfl (k_val (v' := .int (iI (((kdf ak no) : Nat) : Int))) (congrArg Value.int (iI_andn (by first | omega | exact kmk_lt _ _ | assumption) (by first | omega | exact kmk_lt _ _ | assumption))) ?_)
  refine k_ior (pc1 := 19) dX2_expectedPeople_18 rfl (k_val (v' := .int (iI ((((2 ^ hst.toNat) ||| (kdf ak no)) : Nat) : Int))) (congrArg Value.int iI_or) ?_)
  exact k_iret dX2_expectedPeople_19 rfl rfl (kret rfl _)
theorem w_X2_expectedCount {l : Launch} {G : kG} {h : kAH} (hl : l.stackTraces = false) {o dl : Nat} {num hst : Int} {ak ys no : Nat} (hO : h o = some (.inr (6, [.int (iI num), .int (iI hst), .int (iI ((ak : Nat) : Int)), .ref dl, .int (iI ((ys : Nat) : Int)), .int (iI ((no : Nat) : Int))]))) (hh : 0 ≤ hst ∧ hst < 6) (ha : ak < 64) (hy : ys < 64) (hn : no < 64) : kP l G m_X2_expectedCount 3 [.ref o] h (.int (iI (kpo (exM hst ak no) 6))) := by
  have hxl := exM_lt (no := no) hh ha
  refine kC_of hl rfl rfl (Nat.le_of_ble_eq_true rfl) (L := [some (.ref o)]) rfl ?_
  refine k_aload_n (pc1 := 1) dX2_expectedCount_0 rfl rfl ?_
  refine k_callVP dX2_expectedCount_1 rfl lk_RX2_35 o_X2_expectedPeople (w_X2_expectedPeople hl hO hh ha hy hn) (as := []) hO rfl rfl rfl rfl (by decide) (by decide) (k8 rfl) ?_
  refine k_callSP dX2_expectedCount_4 rfl lk_RX2_39 o_J6_bitCount_0f7a4 (w_bitc hl (exM hst ak no) (by first | omega | exact kmk_lt _ 6 | exact exM_lt ⟨by omega, by omega⟩ (by first | omega | exact kmk_lt _ 6) | assumption)) (as := [.int (iI (((exM hst ak no) : Nat) : Int))]) rfl rfl rfl (by decide) (by decide) (k8 rfl) ?_
  exact k_iret dX2_expectedCount_7 rfl rfl (kret rfl _)
theorem w_X2_expects {l : Launch} {G : kG} {h : kAH} (hl : l.stackTraces = false) {o dl : Nat} {num hst : Int} {ak ys no : Nat} (hO : h o = some (.inr (6, [.int (iI num), .int (iI hst), .int (iI ((ak : Nat) : Int)), .ref dl, .int (iI ((ys : Nat) : Int)), .int (iI ((no : Nat) : Int))]))) (hh : 0 ≤ hst ∧ hst < 6) (ha : ak < 64) (hy : ys < 64) (hn : no < 64) (p : Int) (hp : 0 ≤ p ∧ p < 6) : kP l G m_X2_expects 3 [.ref o, .int (iI p)] h (.int (iI (kB ((exM hst ak no).testBit p.toNat = true)))) := by
  have hxl := exM_lt (no := no) hh ha
  refine kC_of hl rfl rfl (Nat.le_of_ble_eq_true rfl) (L := [some (.ref o), some (.int (iI p))]) rfl ?_
  refine k_aload_n (pc1 := 1) dX2_expects_0 rfl rfl ?_
  refine k_callVP dX2_expects_1 rfl lk_RX2_35 o_X2_expectedPeople (w_X2_expectedPeople hl hO hh ha hy hn) (as := []) hO rfl rfl rfl rfl (by decide) (by decide) (k8 rfl) ?_
  refine k_iload_n (pc1 := 5) dX2_expects_4 rfl rfl ?_
  refine k_callSNP dX2_expects_5 rfl ln_RX2_44 o_X5_holdsPerson (w_X5_holdsPerson hl (exM hst ak no) p (by first | omega | exact kmk_lt _ 6 | exact exM_lt ⟨by omega, by omega⟩ (by first | omega | exact kmk_lt _ 6) | assumption) ⟨by omega, by omega⟩) (as := [.int (iI (((exM hst ak no) : Nat) : Int)), .int (iI p)]) rfl rfl rfl (by decide) (by decide) (k8 rfl) ?_
  exact k_iret dX2_expects_8 rfl (kn_b _) (kret rfl _)
theorem w_X2_answerFrom {l : Launch} {G : kG} {h : kAH} (hl : l.stackTraces = false) {o dl : Nat} {num hst : Int} {ak ys no : Nat} (hO : h o = some (.inr (6, [.int (iI num), .int (iI hst), .int (iI ((ak : Nat) : Int)), .ref dl, .int (iI ((ys : Nat) : Int)), .int (iI ((no : Nat) : Int))]))) (hh : 0 ≤ hst ∧ hst < 6) (ha : ak < 64) (hy : ys < 64) (hn : no < 64) (p : Int) (hp : 0 ≤ p ∧ p < 6) : kP l G m_X2_answerFrom 3 [.ref o, .int (iI p)] h (.int (iI (kI (p = hst) 104 (kI (¬ ak.testBit p.toNat = true) 45 (kI (ys.testBit p.toNat = true) 121 (kI (no.testBit p.toNat = true) 110 111)))))) := by
  refine kC_of hl rfl rfl (Nat.le_of_ble_eq_true rfl) (L := [some (.ref o), some (.int (iI p))]) rfl ?_
  refine k_iload_n (pc1 := 1) dX2_answerFrom_0 rfl rfl ?_
  refine k_aload_n (pc1 := 2) dX2_answerFrom_1 rfl rfl ?_
  refine k_get (pc1 := 5) dX2_answerFrom_2 rfl fd_RX2_15 hO (v := .int (iI hst)) rfl ?_
  refine k_icmp_ne (a := p) (b := hst) dX2_answerFrom_5 rfl (tgt := 11) rfl (by omega) (by omega) (fun c5 : p ≠ hst => ?_) (fun c5 : p = hst => ?_)
  · skip
    refine k_aload_n (pc1 := 12) dX2_answerFrom_11 rfl rfl ?_
    refine k_get (pc1 := 15) dX2_answerFrom_12 rfl fd_RX2_18 hO (v := .int (iI ((ak : Nat) : Int))) rfl ?_
    refine k_iload_n (pc1 := 16) dX2_answerFrom_15 rfl rfl ?_
    refine k_callSNP dX2_answerFrom_16 rfl ln_RX2_44 o_X5_holdsPerson (w_X5_holdsPerson hl ak p (by first | omega | exact kmk_lt _ 6 | exact exM_lt ⟨by omega, by omega⟩ (by first | omega | exact kmk_lt _ 6) | assumption) ⟨by omega, by omega⟩) (as := [.int (iI ((ak : Nat) : Int)), .int (iI p)]) rfl rfl rfl (by decide) (by decide) (k8 rfl) ?_
    refine k_if_ne (a := kB (Nat.testBit ak p.toNat = true)) dX2_answerFrom_19 rfl (tgt := 25) rfl (kB_r _) (fun c19 : kB (Nat.testBit ak p.toNat = true) ≠ 0 => ?_) (fun c19 : kB (Nat.testBit ak p.toNat = true) = 0 => ?_)
    · replace c19 : (Nat.testBit ak p.toNat = true) := kB_nz.mp c19
      refine k_aload_n (pc1 := 26) dX2_answerFrom_25 rfl rfl ?_
      refine k_get (pc1 := 29) dX2_answerFrom_26 rfl fd_RX2_48 hO (v := .int (iI ((ys : Nat) : Int))) rfl ?_
      refine k_iload_n (pc1 := 30) dX2_answerFrom_29 rfl rfl ?_
      refine k_callSNP dX2_answerFrom_30 rfl ln_RX2_44 o_X5_holdsPerson (w_X5_holdsPerson hl ys p (by first | omega | exact kmk_lt _ 6 | exact exM_lt ⟨by omega, by omega⟩ (by first | omega | exact kmk_lt _ 6) | assumption) ⟨by omega, by omega⟩) (as := [.int (iI ((ys : Nat) : Int)), .int (iI p)]) rfl rfl rfl (by decide) (by decide) (k8 rfl) ?_
      refine k_if_eq (a := kB (Nat.testBit ys p.toNat = true)) dX2_answerFrom_33 rfl (tgt := 39) rfl (kB_r _) (fun c33 : kB (Nat.testBit ys p.toNat = true) = 0 => ?_) (fun c33 : kB (Nat.testBit ys p.toNat = true) ≠ 0 => ?_)
      · replace c33 : ¬(Nat.testBit ys p.toNat = true) := kB_z.mp c33
        refine k_aload_n (pc1 := 40) dX2_answerFrom_39 rfl rfl ?_
        refine k_get (pc1 := 43) dX2_answerFrom_40 rfl fd_RX2_32 hO (v := .int (iI ((no : Nat) : Int))) rfl ?_
        refine k_iload_n (pc1 := 44) dX2_answerFrom_43 rfl rfl ?_
        refine k_callSNP dX2_answerFrom_44 rfl ln_RX2_44 o_X5_holdsPerson (w_X5_holdsPerson hl no p (by first | omega | exact kmk_lt _ 6 | exact exM_lt ⟨by omega, by omega⟩ (by first | omega | exact kmk_lt _ 6) | assumption) ⟨by omega, by omega⟩) (as := [.int (iI ((no : Nat) : Int)), .int (iI p)]) rfl rfl rfl (by decide) (by decide) (k8 rfl) ?_
        refine k_if_eq (a := kB (Nat.testBit no p.toNat = true)) dX2_answerFrom_47 rfl (tgt := 55) rfl (kB_r _) (fun c47 : kB (Nat.testBit no p.toNat = true) = 0 => ?_) (fun c47 : kB (Nat.testBit no p.toNat = true) ≠ 0 => ?_)
        · replace c47 : ¬(Nat.testBit no p.toNat = true) := kB_z.mp c47
          refine k_bipush 111 (pc1 := 57) dX2_answerFrom_55 rfl (by decide) ?_
          exact k_iret dX2_answerFrom_57 rfl rfl (kret (by first | exact (kI_t (by first | omega | assumption)).symm | (rw [kI_f (by omega)]; first | exact (kI_t (by assumption)).symm | (rw [kI_f (by exact fun z => z (by assumption))]; first | exact (kI_t (by assumption)).symm | (rw [kI_f (by assumption)]; first | exact (kI_t (by assumption)).symm | exact (kI_f (by assumption)).symm)))) _)
        · replace c47 : (Nat.testBit no p.toNat = true) := kB_nz.mp c47
          refine k_bipush 110 (pc1 := 52) dX2_answerFrom_50 rfl (by decide) ?_
          refine k_goto dX2_answerFrom_52 (tgt := 57) rfl ?_
          exact k_iret dX2_answerFrom_57 rfl rfl (kret (by first | exact (kI_t (by first | omega | assumption)).symm | (rw [kI_f (by omega)]; first | exact (kI_t (by assumption)).symm | (rw [kI_f (by exact fun z => z (by assumption))]; first | exact (kI_t (by assumption)).symm | (rw [kI_f (by assumption)]; first | exact (kI_t (by assumption)).symm | exact (kI_f (by assumption)).symm)))) _)
      · replace c33 : (Nat.testBit ys p.toNat = true) := kB_nz.mp c33
        refine k_bipush 121 (pc1 := 38) dX2_answerFrom_36 rfl (by decide) ?_
        exact k_iret dX2_answerFrom_38 rfl rfl (kret (by first | exact (kI_t (by first | omega | assumption)).symm | (rw [kI_f (by omega)]; first | exact (kI_t (by assumption)).symm | (rw [kI_f (by exact fun z => z (by assumption))]; first | exact (kI_t (by assumption)).symm | (rw [kI_f (by assumption)]; first | exact (kI_t (by assumption)).symm | exact (kI_f (by assumption)).symm)))) _)
    · replace c19 : ¬(Nat.testBit ak p.toNat = true) := kB_z.mp c19
      refine k_bipush 45 (pc1 := 24) dX2_answerFrom_22 rfl (by decide) ?_
      exact k_iret dX2_answerFrom_24 rfl rfl (kret (by first | exact (kI_t (by first | omega | assumption)).symm | (rw [kI_f (by omega)]; first | exact (kI_t (by assumption)).symm | (rw [kI_f (by exact fun z => z (by assumption))]; first | exact (kI_t (by assumption)).symm | (rw [kI_f (by assumption)]; first | exact (kI_t (by assumption)).symm | exact (kI_f (by assumption)).symm)))) _)
  · skip
    refine k_bipush 104 (pc1 := 10) dX2_answerFrom_8 rfl (by decide) ?_
    exact k_iret dX2_answerFrom_10 rfl rfl (kret (by first | exact (kI_t (by first | omega | assumption)).symm | (rw [kI_f (by omega)]; first | exact (kI_t (by assumption)).symm | (rw [kI_f (by exact fun z => z (by assumption))]; first | exact (kI_t (by assumption)).symm | (rw [kI_f (by assumption)]; first | exact (kI_t (by assumption)).symm | exact (kI_f (by assumption)).symm)))) _)
