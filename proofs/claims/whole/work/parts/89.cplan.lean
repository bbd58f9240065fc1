/-! ===== the class: planDates, walked ===== -/
theorem do_le {A : kAb} {xs : List (Int × Int)} {N M : Nat} (z : kDo A xs N) (h : N ≤ M) : kDo A xs M := ⟨z.1, Nat.le_trans z.2.1 h, z.2.2⟩
section KPE
variable {G : kG} {h h' : kAH} {pl : Nat} {γ γ' : kGh} {A A' : kAb} {f : Nat → Int} {n : Int}
theorem ra_MA2 {c : Nat} {dm ds : Nat} (hc : aMn A n = c) (z : kRA G h pl γ A) (hn : aLv A n) (h6 : c < 6) (hdm : gDt γ n (c : Int) = dm) (hds : gSt γ n (c : Int) = ds) {ar c0 : Nat} (hS : kLs G h (gMd γ n) ar c0 ((List.range c).map fun (d : Nat) => gDt γ n (d : Int))) (har : gOw γ ar = (6, n.toNat) ∨ h ar = none) (hed : h' G.2.2.2 = none)
    (hq : h dm = some (kDc γ A n (c : Int))) (hq0 : gOw γ dm = (0, 0)) (hs : h ds = some (kSc A n (c : Int))) (hs0 : gOw γ ds = (0, 0))
    (hx : kLx G h (gMd γ n) ar (((List.range c).map fun (d : Nat) => gDt γ n (d : Int)) ++ [dm]) h') :
    ∃ ow' : Nat → Nat × Nat, kRA G h' pl (ow', γ.2) (xMx A n (c + 1) (aDx A)) ∧ ∀ (b : Nat) (e : va_E), h b = some e → gOw γ b = (0, 0) → b ≠ dm → b ≠ ds → h' b = some e ∧ ow' b = (0, 0) := by
  subst hc hdm hds
  exact ra_MA z hn h6 hS har hed hq hq0 hs hs0 hx
theorem pi_at {K : Nat → Int} {t ln : Int} {c mt : Nat} {Rm : Nat → Nat} {ss qs : List Nat} {h2 h3 : kAH} {i : Nat} {ow3 : Nat → Nat × Nat} {dx : Int → List (Int × Int)} (hpi : kPi G pl γ γ' A A' n c K ss qs h2 i h3 ow3 dx) (z : kRA G h pl γ A) (hi : i < ss.length) (hX2 : kXt h h2) (hpl : kPl h mt Rm ss h2 qs) (hql : qs.length = ss.length)
    (hss : ∀ (i x : Nat), ss[i]? = some x → h x = some (.inr (8, [.int (iI (K i)), .int (iI t), .int (iI ln)])) ∧ gOw γ x = (0, 0)) (hnd : ss.Nodup) :
    ∃ qi si : Nat, qs[i]? = some qi ∧ ss[i]? = some si ∧ h3 qi = some (.inr (4, [.ref mt, .ref si, .ref (Rm i), .int (iI 0)])) ∧ ow3 qi = (0, 0) ∧ h3 si = some (.inr (8, [.int (iI (K i)), .int (iI t), .int (iI ln)])) ∧ ow3 si = (0, 0) := by
  have eq : qs[i]? = some (qs[i]'(by omega)) := List.getElem?_eq_getElem (by omega)
  obtain ⟨z1, si, z2, z3⟩ := hpl.2 i _ eq
  obtain ⟨w1, w2⟩ := hss i si z2
  have hq0 : gOw γ (qs[i]'(by omega)) = (0, 0) := z.2.2.2.2.2.2.2.2 _ z1
  have u1 := hpi.2.2 _ _ z3 hq0 (fun j hj => ⟨fun y => by
    have := (List.getElem?_inj (show j < qs.length by omega) hpl.1).mp (y.trans eq.symm)
    omega, fun y => by
    obtain ⟨v1, -⟩ := hss j _ y
    rw [z1] at v1; cases v1⟩)
  have u2 := hpi.2.2 _ _ (hX2 _ _ w1) w2 (fun j hj => ⟨fun y => (by
    obtain ⟨v1, -⟩ := hpl.2 j _ y
    rw [w1] at v1; cases v1), fun y => by
    have := (List.getElem?_inj (show j < ss.length by omega) hnd).mp (y.trans z2.symm)
    omega⟩)
  exact ⟨_, si, eq, z2, u1.1, u1.2, u2.1, u2.2⟩
theorem pi_list {K : Nat → Int} {c mt p arp cp : Nat} {t ln : Int} {Rm : Nat → Nat} {ss qs : List Nat} {h2 h3 : kAH} {i : Nat} {ow3 : Nat → Nat × Nat} {dx : Int → List (Int × Int)} (hpi : kPi G pl γ γ' A A' n c K ss qs h2 i h3 ow3 dx) (z : kRA G h pl γ A) (hpl : kPl h mt Rm ss h2 qs)
    (hss : ∀ (i x : Nat), ss[i]? = some x → h x = some (.inr (8, [.int (iI (K i)), .int (iI t), .int (iI ln)])) ∧ gOw γ x = (0, 0)) (hX2 : kXt h h2) (hP : kLs G h2 p arp cp qs) (hp : h p = none) (harp : arp = G.2.2.2 ∨ h arp = none) (hed : h G.2.2.2 = none) : kLs G h3 p arp cp qs := by
  have harn : h arp = none := by
    rcases harp with y | y
    · rw [y]; exact hed
    · exact y
  have key : ∀ (b : Nat) (e : va_E), h b = none → h2 b = some e → (∀ (ci : Nat) (vs : List Value), e = .inr (ci, vs) → ci = 3) → h3 b = some e := fun b e hb z2 hc => (hpi.2.2 b e z2 (z.2.2.2.2.2.2.2.2 b hb) (fun j hj => ⟨fun y => by
    obtain ⟨-, s, -, v3⟩ := hpl.2 j _ y
    rw [z2] at v3
    have := hc 4 _ (Option.some.inj v3)
    omega, fun y => by
    obtain ⟨v1, -⟩ := hss j _ y
    rw [hb] at v1; cases v1⟩)).1
  obtain ⟨⟨mc, y1⟩, y2⟩ := id hP
  refine kLs_fr hP (fun e he => key p e hp he (fun ci vs e9 => ?_)) (fun e he => ?_)
  · rw [y1] at he
    have := Option.some.inj he
    rw [e9] at this
    cases this
    rfl
  · rcases y2 with ⟨y2, y3, y4⟩ | ⟨-, -, F, g3, -⟩
    · by_cases c : ∃ (ci : Nat) (vs : List Value), e = .inr (ci, vs) ∧ ci ≠ 3
      · obtain ⟨ci, vs, e1, e2⟩ := c
        have := hpi.2.2 arp e he (z.2.2.2.2.2.2.2.2 arp harn)
        by_cases d : ∀ j : Nat, j < i → qs[j]? ≠ some arp ∧ ss[j]? ≠ some arp
        · exact (this d).1
        · refine absurd ?_ d
          intro j hj
          refine ⟨fun y => ?_, fun y => ?_⟩
          · rw [y3] at y; cases y
          · obtain ⟨v1, -⟩ := hss j _ y
            rw [harn] at v1; cases v1
      · exact key arp e harn he (fun ci vs e1 => by
          by_cases d : ci = 3
          · exact d
          · exact absurd ⟨ci, vs, e1, d⟩ c)
    · exact key arp e harn he (fun ci vs e1 => by rw [g3, e1] at he; cases he)
theorem pi_add {K S : Nat → Int} {c i : Nat} {t ln : Int} {ss qs : List Nat} {h2 h3 h4 : kAH} {ow3 : Nat → Nat × Nat} {dx : Int → List (Int × Int)} {qi si ar c0 : Nat} (hn : aLv A n) (hi : i < ss.length) (hc6 : c + ss.length ≤ 6)
    (hR : kRA G h3 pl (ow3, (xDS γ γ.1 (kAgd (gDt γ) n c ss.length qs) (kAgd (gSt γ) n c ss.length ss)).2) (xMx (xDD A (kAdt A n c ss.length K S t ln) (aDx A)) n (c + i) dx))
    (e1 : qs[i]? = some qi) (e2 : ss[i]? = some si) (hq : h3 qi = some (.inr (4, [.ref (gMt γ n), .ref si, .ref (gRm γ (S i)), .int (iI 0)]))) (hq0 : ow3 qi = (0, 0)) (hs : h3 si = some (.inr (8, [.int (iI (K i)), .int (iI t), .int (iI ln)]))) (hs0 : ow3 si = (0, 0))
    (hS : kLs G h3 (gMd γ n) ar c0 ((List.range (c + i)).map fun (d : Nat) => kAgd (gDt γ) n c ss.length qs n (d : Int))) (har : ow3 ar = (6, n.toNat) ∨ h3 ar = none) (hed : h4 G.2.2.2 = none) (hx : kLx G h3 (gMd γ n) ar (((List.range (c + i)).map fun (d : Nat) => kAgd (gDt γ) n c ss.length qs n (d : Int)) ++ [qi]) h4) :
    ∃ ow4 : Nat → Nat × Nat, kRA G h4 pl (ow4, (xDS γ γ.1 (kAgd (gDt γ) n c ss.length qs) (kAgd (gSt γ) n c ss.length ss)).2) (xMx (xDD A (kAdt A n c ss.length K S t ln) (aDx A)) n (c + i + 1) dx) ∧ ∀ (b : Nat) (e : va_E), h3 b = some e → ow3 b = (0, 0) → b ≠ qi → b ≠ si → h4 b = some e ∧ ow4 b = (0, 0) := by
  have ec : ((c + i : Nat) : Int) = (c : Int) + (i : Int) := Int.natCast_add c i
  obtain ⟨v0, v1, v2, v3, v4⟩ := kAdt_at (A := A) (n := n) (c := c) (K := K) (S := S) (t := t) (ln := ln) hi
  have a1 : kAgd (gDt γ) n c ss.length qs n ((c + i : Nat) : Int) = qi := by rw [ec]; exact kAgd_at hi e1
  have a2 : kAgd (gSt γ) n c ss.length ss n ((c + i : Nat) : Int) = si := by rw [ec]; exact kAgd_at hi e2
  obtain ⟨ow4, r1, r2⟩ := ra_MA2 (γ := (ow3, (xDS γ γ.1 (kAgd (gDt γ) n c ss.length qs) (kAgd (gSt γ) n c ss.length ss)).2)) (A := xMx (xDD A (kAdt A n c ss.length K S t ln) (aDx A)) n (c + i) dx) (c := c + i) (if_pos rfl) hR hn (by omega) a1 a2 hS har hed (by
      show h3 qi = some (Sum.inr (4, [Value.ref (gMt γ n), Value.ref (kAgd (gSt γ) n c ss.length ss n ((c + i : Nat) : Int)), Value.ref (gRm γ (kAdt A n c ss.length K S t ln n ((c + i : Nat) : Int) 3)), Value.int (iI (kAdt A n c ss.length K S t ln n ((c + i : Nat) : Int) 2))]))
      rw [a2, ec, v3, v2]; exact hq) hq0 (by
      show h3 si = some (Sum.inr (8, [Value.int (iI (kAdt A n c ss.length K S t ln n ((c + i : Nat) : Int) 0)), Value.int (iI (kAdt A n c ss.length K S t ln n ((c + i : Nat) : Int) 1)), Value.int (iI (kAdt A n c ss.length K S t ln n ((c + i : Nat) : Int) 4))]))
      rw [ec, v0, v1, v4]; exact hs) hs0 hx
  have r3 := r1
  rw [show xMx (xMx (xDD A (kAdt A n c ss.length K S t ln) (aDx A)) n (c + i) dx) n (c + i + 1) (aDx (xMx (xDD A (kAdt A n c ss.length K S t ln) (aDx A)) n (c + i) dx)) = xMx (xDD A (kAdt A n c ss.length K S t ln) (aDx A)) n (c + i + 1) dx from xMx_2] at r3
  exact ⟨ow4, r3, r2⟩
theorem pi_on {K : Nat → Int} {c i : Nat} {ss qs : List Nat} {h2 h3 h4 h5 : kAH} {ow3 ow4 ow5 : Nat → Nat × Nat} {dx : Int → List (Int × Int)} {xs : List (Int × Int)} {qi si : Nat} (hpi : kPi G pl γ γ' A A' n c K ss qs h2 i h3 ow3 dx) (e1 : qs[i]? = some qi) (e2 : ss[i]? = some si)
    (hu4 : ∀ (b : Nat) (e : va_E), h3 b = some e → ow3 b = (0, 0) → b ≠ qi → b ≠ si → h4 b = some e ∧ ow4 b = (0, 0))
    (hR5 : kRA G h5 pl (ow5, γ'.2) (xDx (xMx A' n (c + i + 1) dx) (fun k => if k = K i then xs else dx k))) (ho5 : kDo (xMx A' n (c + i + 1) dx) xs (48 + i + 1)) (hx5 : ∀ q : Int × Int, q ∈ xs ↔ q = (n, (c : Int) + (i : Int)) ∨ q ∈ dx (K i)) (hu5 : ∀ (b : Nat) (e : va_E), h4 b = some e → ow4 b = (0, 0) → h5 b = some e ∧ ow5 b = (0, 0)) :
    kPi G pl γ γ' A A' n c K ss qs h2 (i + 1) h5 ow5 (fun k => if k = K i then xs else dx k) := by
  obtain ⟨p1, p2, p3⟩ := hpi
  refine ⟨hR5, fun k k0 k1 => ?_, fun b e w1 w2 w3 => ?_⟩
  · obtain ⟨u1, u2⟩ := p2 k k0 k1
    have u3 := do_mn (n := n) (v := c + i + 1) (dx := dx) u1 (by show (if n = n then c + i else aMn A' n) ≤ c + i + 1; rw [if_pos rfl]; omega)
    rw [show xMx (xMx A' n (c + i) dx) n (c + i + 1) dx = xMx A' n (c + i + 1) dx from xMx_2] at u3
    by_cases ck : k = K i
    · show kDo _ (if k = K i then xs else dx k) _ ∧ ∀ q : Int × Int, q ∈ (if k = K i then xs else dx k) ↔ _
      rw [if_pos ck]
      refine ⟨ho5, fun x => (hx5 x).trans ?_⟩
      rw [← ck, u2]
      constructor
      · rintro (y | y | ⟨j, y1, y2, y3⟩)
        · exact Or.inr ⟨i, by omega, y, ck.symm⟩
        · exact Or.inl y
        · exact Or.inr ⟨j, by omega, y2, y3⟩
      · rintro (y | ⟨j, y1, y2, y3⟩)
        · exact Or.inr (Or.inl y)
        · by_cases cj : j = i
          · subst cj; exact Or.inl y2
          · exact Or.inr (Or.inr ⟨j, by omega, y2, y3⟩)
    · show kDo _ (if k = K i then xs else dx k) _ ∧ ∀ q : Int × Int, q ∈ (if k = K i then xs else dx k) ↔ _
      rw [if_neg ck]
      refine ⟨do_le u3 (by omega), fun x => (u2 x).trans ?_⟩
      constructor
      · rintro (y | ⟨j, y1, y2, y3⟩)
        · exact Or.inl y
        · exact Or.inr ⟨j, by omega, y2, y3⟩
      · rintro (y | ⟨j, y1, y2, y3⟩)
        · exact Or.inl y
        · refine Or.inr ⟨j, ?_, y2, y3⟩
          by_cases cj : j = i
          · subst cj; exact absurd y3.symm ck
          · omega
  · obtain ⟨a1, a2⟩ := p3 b e w1 w2 (fun j hj => w3 j (by omega))
    obtain ⟨b1, b2⟩ := w3 i (by omega)
    obtain ⟨c1, c2⟩ := hu4 b e a1 a2 (fun y => b1 (by rw [y]; exact e1)) (fun y => b2 (by rw [y]; exact e2))
    exact hu5 b e c1 c2
end KPE
