/-! ===== the class: outcomes of its calls; more cells beside its own ===== -/
def kXt (h h' : kAH) : Prop := ∀ (b : Nat) (e : va_E), h b = some e → h' b = some e
theorem kXt_rf (h : kAH) : kXt h h := fun _ _ z => z
theorem kXt_tr {h h1 h2 : kAH} (q : kXt h h1) (q2 : kXt h1 h2) : kXt h h2 := fun b e z => q2 b e (q b e z)
theorem kXt_new {h : kAH} {q : Nat} {e : va_E} (hq : h q = none) : kXt h (kup h q e) := fun b e' z => (kup_ne (kne_new z hq)).trans z
theorem kXt_no {h h' : kAH} (q : kXt h h') {b : Nat} (hb : h' b = none) : h b = none := by
  cases c : h b with
  | none => rfl
  | some e => rw [q b e c] at hb; cases hb
theorem kLs_xt {G : kG} {h h' : kAH} (q : kXt h h') {a ar c : Nat} {xs : List Nat} (z : kLs G h a ar c xs) : kLs G h' a ar c xs := by
  obtain ⟨⟨mc, z1⟩, z2⟩ := z
  refine ⟨⟨mc, q _ _ z1⟩, ?_⟩
  rcases z2 with z2 | ⟨g1, g2, F, g3, g4⟩
  · exact Or.inl z2
  · exact Or.inr ⟨g1, g2, F, q _ _ g3, g4⟩
theorem kLt_xt {G : kG} {h h' : kAH} (q : kXt h h') {ow : Nat → Nat × Nat} {a : Nat} {xs : List Nat} {t t' : Nat × Nat} (z : kLt G h ow a xs t t') : kLt G h' ow a xs t t' := by
  obtain ⟨z1, ar, c, z2, z3⟩ := z
  exact ⟨z1, ar, c, kLs_xt q z2, z3⟩
theorem kRA_xt {G : kG} {h h' : kAH} {pl : Nat} {γ : kGh} {A : kAb} (q : kXt h h') (z : kRA G h pl γ A) : kRA G h' pl γ A := by
  obtain ⟨⟨a1, a2⟩, ⟨⟨F, b1, b2⟩, b3⟩, c1, ⟨⟨F2, d1, d2⟩, d3⟩, e1, f1, g1, i1, j1⟩ := z
  refine ⟨⟨q _ _ a1, a2⟩, ⟨⟨F, q _ _ b1, b2⟩, b3⟩, fun r h0 h1 => ⟨q _ _ (c1 r h0 h1).1, (c1 r h0 h1).2⟩, ⟨⟨F2, q _ _ d1, d2⟩, d3⟩, fun k h0 h1 => ?_, kLt_xt q f1, fun n hn => ?_, fun n d hn h0 h1 h2 => ?_, fun b hb => j1 b (kXt_no q hb)⟩
  · obtain ⟨⟨u1, u2⟩, u3⟩ := e1 k h0 h1
    exact ⟨⟨q _ _ u1, u2⟩, kLt_xt q u3⟩
  · obtain ⟨u0, ⟨u1, u2⟩, u3⟩ := g1 n hn
    exact ⟨u0, ⟨q _ _ u1, u2⟩, kLt_xt q u3⟩
  · obtain ⟨⟨u1, u2⟩, u3, u4⟩ := i1 n d hn h0 h1 h2
    exact ⟨⟨q _ _ u1, u2⟩, q _ _ u3, u4⟩
theorem kRp_xt {G : kG} {h h' : kAH} {pl : Nat} {γ : kGh} {A : kAb} {f : Nat → Int} (q : kXt h h') (z : kRp G h pl γ A f) : kRp G h' pl γ A f := ⟨kRA_xt q z.1, z.2⟩
-- the state afterwards; what is not ours is as it was
def kSt (G : kG) (pl : Nat) (γ : kGh) (h h' : kAH) (f' : Nat → Int) : Prop := ∃ (γ' : kGh) (A' : kAb), kRp G h' pl γ' A' f' ∧ ∀ (b : Nat) (e : va_E), h b = some e → gOw γ b = (0, 0) → h' b = some e ∧ gOw γ' b = (0, 0)
theorem kSt_xt {G : kG} {h h' : kAH} {pl : Nat} {γ : kGh} {A : kAb} {f : Nat → Int} (q : kXt h h') (z : kRp G h pl γ A f) : kSt G pl γ h h' f := ⟨γ, A, kRp_xt q z, fun b e g1 g2 => ⟨q b e g1, g2⟩⟩
theorem kSt_rf {G : kG} {h : kAH} {pl : Nat} {γ : kGh} {A : kAb} {f : Nat → Int} (z : kRp G h pl γ A f) : kSt G pl γ h h f := kSt_xt (kXt_rf h) z
def kOy (G : kG) (pl : Nat) (γ : kGh) (h : kAH) (T : kT) : Option Value → kAH → Prop := fun v h' => T.1 = 0 ∧ v = some (.int (iI T.2.1)) ∧ kSt G pl γ h h' T.2.2
def kOn (G : kG) (pl : Nat) (γ : kGh) (h : kAH) (T : kT) (ex : List String) : String → kAH → Prop := fun E h' => T.1 ≠ 0 ∧ ex[T.1.toNat]? = some E ∧ kSt G pl γ h h' T.2.2
theorem kOy_mk {G : kG} {pl : Nat} {γ : kGh} {h h' : kAH} {T : kT} {v : Int} {f' : Nat → Int} (e : T = (0, v, f')) (z : kSt G pl γ h h' f') : kOy G pl γ h T (some (.int (iI v))) h' := by
  subst e
  exact ⟨rfl, rfl, z⟩
theorem kOn_mk {G : kG} {pl : Nat} {γ : kGh} {h h' : kAH} {T : kT} {c v : Int} {f' : Nat → Int} {ex : List String} {E : String} (e : T = (c, v, f')) (hc : c ≠ 0) (hE : ex[c.toNat]? = some E) (z : kSt G pl γ h h' f') : kOn G pl γ h T ex E h' := by
  subst e
  exact ⟨hc, hE, z⟩
