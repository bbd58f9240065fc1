/-! ===== rules: calls, exceptions ===== -/
-- what is known of a method that is called: its head among the words, its class
def kOk (y : kMR) (nA : Nat) : Prop := kHd y ∈ kW0 ∧ Cond.initialized y.1.cls ∈ kW0 ∧ (y.1.cls ≠ "java/lang/invoke/MethodHandle" ∧ y.1.cls ≠ "java/lang/invoke/VarHandle") ∧ (parseMethodDescriptor y.1.desc).map (fun d => d.parameters.length) = some nA
def kOkV (y : kMR) (nA : Nat) : Prop := y.2.2.2.2 = [] ∧ kOk y nA ∧ Cond.instanceMethod y.1 ∈ kW0 ∧ Cond.selects y.1.cls y.1 y.1 ∈ kW0
def kOkS (y : kMR) (nA : Nat) : Prop := kOk y nA ∧ Cond.static y.1 ∈ kW0
def kOkI (y : kMR) (nA : Nat) : Prop := y.2.2.2.2 = [] ∧ y.2.2.2.1 = none ∧ kOk y nA ∧ y.1.name = "<init>" ∧ Cond.instanceMethod y.1 ∈ kW0
section KC
variable {l : Launch} {G : kG} {y : kMR} {d : Nat} {Φ : Option Value → kAH → Prop} {Ψ : String → kAH → Prop} {k n pc pc1 : Nat} {L : List (Option Value)} {st rest : List Value} {h : kAH}
-- E is thrown, from pc, over the stack rest: of an exception that has a cell of its own
def kX (l : Launch) (G : kG) (y : kMR) (d : Nat) (Φ : Option Value → kAH → Prop) (Ψ : String → kAH → Prop) (k n pc : Nat) (L : List (Option Value)) (E : String) (h : kAH) : Prop :=
  ∀ (p : Program) (e : Env) (R : Room) (s : State) (m : MethodId) (args : Array Value) (below : List Frame) (meth : Method) (c : Code) (H : Heap) (locs : List Loc) (cells slots : Nat) (ls : Array Slot) (rest : List Value) (ce : Cell) (q : Addr),
  kFX l G y d p R s m args meth c → cells + k ≤ R.cells → slots + n ≤ R.slots → kHp G h H → va_S (kA G) s.heap H locs → lv_has ls y.2.2.1 (kpr 0 L) → H[q]? = some ce → ce.vm = .none → s.vm.findClass E = some ce.cls →
  vx_W p l e R s m args below meth c H locs cells slots (vx_MQ below (kQ G Φ) (kQX G Ψ) args s R.cells R.slots (kA G)) (F0 m pc ls rest) q
theorem kx_out {E : String} (hh : y.2.2.2.2 = []) (hq : Ψ E h) : kX l G y d Φ Ψ k n pc L E h := by
  intro p e R s m args below meth c H locs cells slots ls rest ce q F h1 h2 h3 h4 h5 g1 g2 g3
  obtain ⟨hx, hb, hml, hr9, hlocks, hnm, hown, htab, hts, hE, hfr, hlo, -⟩ := id F
  refine vx_out (fun x hx9 => ?_) hlocks g1 g2 g3 (fun t ht hW => ⟨⟨h, hq, by rw [ht]; exact h3⟩, by rw [ht]; exact h4.1, fun q q1 q2 => by rw [ht]; exact h4.2.1 q q1 q2⟩) h4.2.2 (by omega) (by omega)
  rw [htab, hh] at hx9
  cases hx9
-- the rows ahead of x don't take it, x does
theorem kx_catch {E name : String} (pre : List (Nat × Nat × Nat × Nat)) (x : Nat × Nat × Nat × Nat) (suf : List (Nat × Nat × Nat × Nat)) (hh : y.2.2.2.2 = pre ++ x :: suf)
    (hpass : ∀ z ∈ pre, (z.2.2.2 ≠ 0 ∧ ∃ nm : String, Cond.classLink y.1.cls z.2.2.2 nm ∈ kW0 ∧ (E, nm) ∈ kNcs)) (hx0 : x.1 ≤ pc) (hx1 : pc < x.2.1) (h0 : x.2.2.2 ≠ 0) (hlk : Cond.classLink y.1.cls x.2.2.2 name ∈ kW0) (hcast : (E, name) ∈ kCas)
    (kk : ∀ q : Nat, kW l G y d Φ Ψ k n x.2.2.1 L [.ref q] h) : kX l G y d Φ Ψ k n pc L E h := by
  intro p e R s m args below meth c H locs cells slots ls rest ce q F h1 h2 h3 h4 h5 g1 g2 g3
  obtain ⟨hx, hb, hml, hr9, hlocks, hnm, hown, htab, hts, hE, hfr, hlo, -⟩ := id F
  refine vx_catch (name := name) hown (tableOf pre) ⟨x.1, x.2.1, x.2.2.1, x.2.2.2⟩ (tableOf suf) ?_ ?_ ?_ h0 (hts _ hlk) (va_Nw.use rfl (hE.2.2.2.2.2.2.2.1 _ hcast)) g1 g2 g3 (kk q p e R s m args below meth c H locs cells slots ls F h1 h2 h3 h4 h5)
  · rw [htab, hh]
    simp [tableOf]
  · intro z hz
    obtain ⟨w, hw, e9⟩ := List.mem_map.mp hz
    subst e9
    obtain ⟨a1, nm, a2, a3⟩ := hpass w hw
    exact Or.inr ⟨a1, nm, hts _ a2, hE.2.2.2.2.2.2.1 _ a3⟩
  · simp [covers, hx0, hx1]
def kAt (own : String) (ic : Nat) (cls : String) (names : List String) : Prop := ∀ w ∈ vx_atS own ic cls names, w ∈ kW0 ∨ w ∈ kFace
-- throw new E("text")
theorem k_throw {cls text : String} {names : List String} {ik is ic : Nat} (pc3 pc4 pc6 pc9 : Nat) (hh : y.2.2.2.2 = [])
    (d0 : decode y.2.1 pc = .ok (.new ik, 3)) (d3 : decode y.2.1 pc3 = .ok (.dup, 1)) (d4 : decode y.2.1 pc4 = .ok (.ldc is, 2)) (d6 : decode y.2.1 pc6 = .ok (.invokespecial ic, 3)) (d9 : decode y.2.1 pc9 = .ok (.athrow, 1))
    (e3 : pc + 3 = pc3) (e4 : pc + 4 = pc4) (e6 : pc + 6 = pc6) (e9 : pc + 9 = pc9)
    (hcls : Bundle.fit cls = true) (hnames : ∀ n ∈ names, Bundle.fit n = true) (hnl : names.length ≤ 3)
    (hlk : Cond.classLink y.1.cls ik cls ∈ kW0) (hini : Cond.initialized cls ∈ kW0) (hstr : (y.1.cls, is, text) ∈ kStrs) (hat : kAt y.1.cls ic cls names)
    (hw : (st.map fun v => v.category).sum ≤ 8) (hk : 1 ≤ k) (hn : 6 ≤ n) (hq : Ψ cls h) : kW l G y d Φ Ψ k n pc L st h := by
  subst e3 e4 e6 e9
  intro p e R s m args below meth c H locs cells slots ls F h1 h2 h3 h4 h5
  obtain ⟨hx, hb, hml, hr9, hlocks, hnm, hown, htab, hts, hE, hfr, hlo, hN, hl9⟩ := id F
  obtain ⟨sa, hsa⟩ := hE.2.2.2.2.2.1 _ hstr
  have hg : ∀ w ∈ kW0, vx_ot w = true := fun w hw => by
    unfold vx_ot
    rw [(List.mem_filter.mp hw).2, Bool.or_true]
  refine vx_throwS (A := kA G) (sa := sa) (text := text) hx hb hl9 hown hcls hnames (hts _ hlk) (hts _ hini) hsa (fun w hw => (hat w hw).elim (fun z => hts _ z) (fun z => va_tabs (kFace_on z).2 rfl (hE.2.2.2.2.2.2.2.2.2.2.2.2.2.2.1 w z))) ?_ hE.2.1 hE.2.2.1 h4 (by rw [hml]; exact h5.1) d0 d3 d4 d6 d9 ?_ (by have := kFr_ge d; omega) (by have := kLo_ge d; omega) (by omega) (by omega) hlocks ?_ h4.2.2 (by omega) (by omega)
  · intro w hw
    rcases List.mem_cons.mp hw with z | hw
    · rw [z]; exact hg _ hlk
    · rcases List.mem_cons.mp hw with z | hw
      · rw [z]; exact hg _ hini
      · rcases hat w hw with z | z
        · exact hg _ z
        · unfold vx_ot
          rw [(kFace_on z).2]
          rfl
  · intro x hx9
    rw [htab, hh] at hx9
    cases hx9
  · intro t hW hz hk9
    exact ⟨⟨h, hq, kHp_kept h3 hk9⟩, Nat.le_trans h4.1 hz, fun q q1 q2 => by rw [hk9 q (Nat.lt_of_lt_of_le q1 h4.1)]; exact h4.2.1 q q1 q2⟩
theorem k_throwW {cls text : String} {names : List String} {ik is ic : Nat} (pc3 pc4 pc7 pc10 : Nat) (hh : y.2.2.2.2 = [])
    (d0 : decode y.2.1 pc = .ok (.new ik, 3)) (d3 : decode y.2.1 pc3 = .ok (.dup, 1)) (d4 : decode y.2.1 pc4 = .ok (.ldc_w is, 3)) (d7 : decode y.2.1 pc7 = .ok (.invokespecial ic, 3)) (d10 : decode y.2.1 pc10 = .ok (.athrow, 1))
    (e3 : pc + 3 = pc3) (e4 : pc + 4 = pc4) (e7 : pc + 7 = pc7) (e10 : pc + 10 = pc10)
    (hcls : Bundle.fit cls = true) (hnames : ∀ n ∈ names, Bundle.fit n = true) (hnl : names.length ≤ 3)
    (hlk : Cond.classLink y.1.cls ik cls ∈ kW0) (hini : Cond.initialized cls ∈ kW0) (hstr : (y.1.cls, is, text) ∈ kStrs) (hat : kAt y.1.cls ic cls names)
    (hw : (st.map fun v => v.category).sum ≤ 8) (hk : 1 ≤ k) (hn : 6 ≤ n) (hq : Ψ cls h) : kW l G y d Φ Ψ k n pc L st h := by
  subst e3 e4 e7 e10
  intro p e R s m args below meth c H locs cells slots ls F h1 h2 h3 h4 h5
  obtain ⟨hx, hb, hml, hr9, hlocks, hnm, hown, htab, hts, hE, hfr, hlo, hN, hl9⟩ := id F
  obtain ⟨sa, hsa⟩ := hE.2.2.2.2.2.1 _ hstr
  have hg : ∀ w ∈ kW0, vx_ot w = true := fun w hw => by
    unfold vx_ot
    rw [(List.mem_filter.mp hw).2, Bool.or_true]
  refine vx_throwSW (A := kA G) (sa := sa) (text := text) hx hb hl9 hown hcls hnames (hts _ hlk) (hts _ hini) hsa (fun w hw => (hat w hw).elim (fun z => hts _ z) (fun z => va_tabs (kFace_on z).2 rfl (hE.2.2.2.2.2.2.2.2.2.2.2.2.2.2.1 w z))) ?_ hE.2.1 hE.2.2.1 h4 (by rw [hml]; exact h5.1) d0 d3 d4 d7 d10 ?_ (by have := kFr_ge d; omega) (by have := kLo_ge d; omega) (by omega) (by omega) hlocks ?_ h4.2.2 (by omega) (by omega)
  · intro w hw
    rcases List.mem_cons.mp hw with z | hw
    · rw [z]; exact hg _ hlk
    · rcases List.mem_cons.mp hw with z | hw
      · rw [z]; exact hg _ hini
      · rcases hat w hw with z | z
        · exact hg _ z
        · unfold vx_ot
          rw [(kFace_on z).2]
          rfl
  · intro x hx9
    rw [htab, hh] at hx9
    cases hx9
  · intro t hW hz hk9
    exact ⟨⟨h, hq, kHp_kept h3 hk9⟩, Nat.le_trans h4.1 hz, fun q q1 q2 => by rw [hk9 q (Nat.lt_of_lt_of_le q1 h4.1)]; exact h4.2.1 q q1 q2⟩
def kAtX (own : String) (ic : Nat) (cls Y9 : String) (ix : Nat) (rx : ByteArray) (names : List String) : Prop := ∀ w ∈ kv_atS9 own ic cls Y9 ix rx names, w ∈ kW0 ∨ w ∈ kFace
theorem k_throwX {cls Y9 text : String} {names : List String} {ik is ic ix : Nat} {rx : ByteArray} (pc3 pc4 pc6 pc9 : Nat) (hh : y.2.2.2.2 = []) (x0 : decode rx 0 = .ok (.aload_n 0, 1)) (x1 : decode rx 1 = .ok (.aload_n 1, 1)) (x2 : decode rx 2 = .ok (.invokespecial ix, 3)) (x5 : decode rx 5 = .ok (.return_, 1)) (hY9 : Bundle.fit Y9 = true)
    (d0 : decode y.2.1 pc = .ok (.new ik, 3)) (d3 : decode y.2.1 pc3 = .ok (.dup, 1)) (d4 : decode y.2.1 pc4 = .ok (.ldc is, 2)) (d6 : decode y.2.1 pc6 = .ok (.invokespecial ic, 3)) (d9 : decode y.2.1 pc9 = .ok (.athrow, 1))
    (e3 : pc + 3 = pc3) (e4 : pc + 4 = pc4) (e6 : pc + 6 = pc6) (e9 : pc + 9 = pc9)
    (hcls : Bundle.fit cls = true) (hnames : ∀ n ∈ names, Bundle.fit n = true) (hnl : names.length ≤ 2)
    (hlk : Cond.classLink y.1.cls ik cls ∈ kW0) (hini : Cond.initialized cls ∈ kW0) (hstr : (y.1.cls, is, text) ∈ kStrs) (hat : kAtX y.1.cls ic cls Y9 ix rx names)
    (hw : (st.map fun v => v.category).sum ≤ 8) (hk : 1 ≤ k) (hn : 6 ≤ n) (hq : Ψ cls h) : kW l G y d Φ Ψ k n pc L st h := by
  subst e3 e4 e6 e9
  intro p e R s m args below meth c H locs cells slots ls F h1 h2 h3 h4 h5
  obtain ⟨hx, hb, hml, hr9, hlocks, hnm, hown, htab, hts, hE, hfr, hlo, hN, hl9⟩ := id F
  obtain ⟨sa, hsa⟩ := hE.2.2.2.2.2.1 _ hstr
  have hg : ∀ w ∈ kW0, vx_ot w = true := fun w hw => by
    unfold vx_ot
    rw [(List.mem_filter.mp hw).2, Bool.or_true]
  refine kv_makeX (A := kA G) (sa := sa) (text := text) hx hb hl9 x0 x1 x2 x5 hY9 hown hcls hnames (hts _ hlk) (hts _ hini) hsa (fun w hw => (hat w hw).elim (fun z => hts _ z) (fun z => va_tabs (kFace_on z).2 rfl (hE.2.2.2.2.2.2.2.2.2.2.2.2.2.2.1 w z))) ?_ hE.2.1 hE.2.2.1 h4 (by rw [hml]; exact h5.1) d0 d3 d4 d6 (by have := kFr_ge d; omega) (by have := kLo_ge d; omega) (by omega) (by omega) (fun q H1 ce g1 g2 g3 g4 g5 g6 => ?_)
  · intro w hw
    rcases List.mem_cons.mp hw with z | hw
    · rw [z]; exact hg _ hlk
    · rcases List.mem_cons.mp hw with z | hw
      · rw [z]; exact hg _ hini
      · rcases hat w hw with z | z
        · exact hg _ z
        · unfold vx_ot
          rw [(kFace_on z).2]
          rfl
  · exact kv_athrow hx hb d9 (kx_out (k := k - 1) (n := n - 6) hh hq p e R s m args below meth c H1 locs (cells + 1) (slots + 6) ls st ce q F (by omega) (by omega) (kHp_kept h3 g5) g6 h5 g1 g2 g3)
theorem k_throwXW {cls Y9 text : String} {names : List String} {ik is ic ix : Nat} {rx : ByteArray} (pc3 pc4 pc6 pc9 : Nat) (hh : y.2.2.2.2 = []) (x0 : decode rx 0 = .ok (.aload_n 0, 1)) (x1 : decode rx 1 = .ok (.aload_n 1, 1)) (x2 : decode rx 2 = .ok (.invokespecial ix, 3)) (x5 : decode rx 5 = .ok (.return_, 1)) (hY9 : Bundle.fit Y9 = true)
    (d0 : decode y.2.1 pc = .ok (.new ik, 3)) (d3 : decode y.2.1 pc3 = .ok (.dup, 1)) (d4 : decode y.2.1 pc4 = .ok (.ldc_w is, 3)) (d6 : decode y.2.1 pc6 = .ok (.invokespecial ic, 3)) (d9 : decode y.2.1 pc9 = .ok (.athrow, 1))
    (e3 : pc + 3 = pc3) (e4 : pc + 4 = pc4) (e6 : pc + 7 = pc6) (e9 : pc + 10 = pc9)
    (hcls : Bundle.fit cls = true) (hnames : ∀ n ∈ names, Bundle.fit n = true) (hnl : names.length ≤ 2)
    (hlk : Cond.classLink y.1.cls ik cls ∈ kW0) (hini : Cond.initialized cls ∈ kW0) (hstr : (y.1.cls, is, text) ∈ kStrs) (hat : kAtX y.1.cls ic cls Y9 ix rx names)
    (hw : (st.map fun v => v.category).sum ≤ 8) (hk : 1 ≤ k) (hn : 6 ≤ n) (hq : Ψ cls h) : kW l G y d Φ Ψ k n pc L st h := by
  subst e3 e4 e6 e9
  intro p e R s m args below meth c H locs cells slots ls F h1 h2 h3 h4 h5
  obtain ⟨hx, hb, hml, hr9, hlocks, hnm, hown, htab, hts, hE, hfr, hlo, hN, hl9⟩ := id F
  obtain ⟨sa, hsa⟩ := hE.2.2.2.2.2.1 _ hstr
  have hg : ∀ w ∈ kW0, vx_ot w = true := fun w hw => by
    unfold vx_ot
    rw [(List.mem_filter.mp hw).2, Bool.or_true]
  refine kv_makeXW (A := kA G) (sa := sa) (text := text) hx hb hl9 x0 x1 x2 x5 hY9 hown hcls hnames (hts _ hlk) (hts _ hini) hsa (fun w hw => (hat w hw).elim (fun z => hts _ z) (fun z => va_tabs (kFace_on z).2 rfl (hE.2.2.2.2.2.2.2.2.2.2.2.2.2.2.1 w z))) ?_ hE.2.1 hE.2.2.1 h4 (by rw [hml]; exact h5.1) d0 d3 d4 d6 (by have := kFr_ge d; omega) (by have := kLo_ge d; omega) (by omega) (by omega) (fun q H1 ce g1 g2 g3 g4 g5 g6 => ?_)
  · intro w hw
    rcases List.mem_cons.mp hw with z | hw
    · rw [z]; exact hg _ hlk
    · rcases List.mem_cons.mp hw with z | hw
      · rw [z]; exact hg _ hini
      · rcases hat w hw with z | z
        · exact hg _ z
        · unfold vx_ot
          rw [(kFace_on z).2]
          rfl
  · exact kv_athrow hx hb d9 (kx_out (k := k - 1) (n := n - 6) hh hq p e R s m args below meth c H1 locs (cells + 1) (slots + 6) ls st ce q F (by omega) (by omega) (kHp_kept h3 g5) g6 h5 g1 g2 g3)
-- behind a call
theorem kws_hd (y' : kMR) : kHd y' ∈ kws y' := by
  unfold kws
  exact List.mem_cons_self
theorem k_back {mc ms : Nat} {Φ' : Option Value → kAH → Prop} {Ψ' : String → kAH → Prop} {p : Program} {e : Env} {R : Room} {s : State} {m : MethodId} {args : Array Value} {below : List Frame} {meth : Method} {c : Code} {H : Heap} {locs : List Loc} {cells slots : Nat} {ls : Array Slot} {a : Array Value} {pc3 : Nat}
    (e3 : pc + 3 = pc3) (hr : vx_Run p l e R s m args below meth c H locs cells slots mc ms (F0 m pc ls st) rest (kQ G Φ' a) (kQX G Ψ') (kA G))
    (F : kFX l G y d p R s m args meth c) (h1 : cells + k ≤ R.cells) (h2 : slots + n ≤ R.slots) (h4 : va_S (kA G) s.heap H locs) (h5 : lv_has ls y.2.2.1 (kpr 0 L)) (hmc : mc ≤ k) (hms : ms ≤ n)
    (kn : ∀ v h', Φ' v h' → kW l G y d Φ Ψ (k - mc) (n - ms) pc3 L (v.toList ++ rest) h') (kx : ∀ E h', Ψ' E h' → kX l G y d Φ Ψ (k - mc) (n - ms) pc L E h') :
    W p l e R s m args below meth c H locs cells slots (vx_MQ below (kQ G Φ) (kQX G Ψ) args s R.cells R.slots (kA G)) (F0 m pc ls st) := by
  subst e3
  intro T hT X
  rcases hr T hT X with ⟨v, st₀, t, T', LL, h0, X', hL, e1, e2, ⟨⟨v', h', hv, hp, hb⟩, hF⟩, stp⟩ | ⟨q, st₀, t, T', LL, E, ce, h0, X', hL, e1, e2, ⟨⟨h', hp, hb⟩, hF⟩, hce, hcv, hcl, stp⟩
  · cases hv
    obtain ⟨k1, k2, k3⟩ := vx_keep h0 e1 h4 (fun q _ z => z) (fun q z => z) hL hF
    obtain ⟨t2, a1, b1⟩ := kn v h' hp p e R s m args below meth c T'.heap (locs ++ LL) (cells + mc) (slots + ms) ls F (by omega) (by omega) (by rw [e1]; exact hb) k3 h5 T' rfl X'
    exact ⟨t2, stp t2 a1, b1⟩
  · obtain ⟨k1, k2, k3⟩ := vx_keep h0 e1 h4 (fun q _ z => z) (fun q z => z) hL hF
    obtain ⟨t2, a1, b1⟩ := kx E h' hp p e R s m args below meth c T'.heap (locs ++ LL) (cells + mc) (slots + ms) ls rest ce q F (by omega) (by omega) (by rw [e1]; exact hb) k3 h5 (by rw [e1]; exact hce) hcv hcl T' rfl X'
    exact ⟨t2, stp.trans a1, b1⟩
theorem k_pre {as : List Value} {s : State} {H : Heap} {locs : List Loc} (hE : kEnv G s s.heap) (h3 : kHp G h H) (h4 : va_S (kA G) s.heap H locs) (hN : G.2.2.1 ≤ s.heap.size) : ∀ U : State, U.heap = H → s.WarmedH U.vm → va_Pc as (fun U => kEnv G U U.heap ∧ kHp G h U.heap ∧ G.2.2.1 ≤ U.heap.size) as.toArray U :=
  fun U hU hW => ⟨rfl, kEnv_moved hE hW (fun q q1 q2 => by rw [hU]; exact h4.2.1 q q1 q2), by rw [hU]; exact h3, by rw [hU]; exact Nat.le_trans hN h4.1⟩
theorem k_ws {y' : kMR} {s : State} {args : Array Value} (hts : ∀ w ∈ kW0, w.before args s = true) (hd : kHd y' ∈ kW0) : ∀ w ∈ kws y', ∀ (a' : Array Value) (U : State), s.WarmedH U.vm → w.before a' U = true :=
  pay_in hts (fun w hw => (List.mem_cons.mp hw).elim (fun e => by rw [e]; exact kW0_good _ hd) (fun hw => kW0_good w hw))
theorem k_cb {y' : kMR} {R : Room} {s : State} {args : Array Value} {idx nA d' mc ms : Nat} (hts : ∀ w ∈ kW0, w.before args s = true) (hh : y'.2.2.2.2 = []) (hok : kOk y' nA) (hlk : Cond.methodLink y.1.cls idx y'.1 ∈ kW0) (hfr : kFr d ≤ R.frames) (hlo : kLo d ≤ R.locals) (hdd : d' < d) (hml9 : y'.2.2.1 ≤ 20) :
    CallB R s args y.1.cls idx y'.1 y'.2.1 y'.2.2.1 y'.2.2.2.1 (kws y') (krm d' mc ms) mc ms nA := by
  obtain ⟨o1, o2, o3, o4⟩ := hok
  have hd : kHd y' = Cond.code y'.1 y'.2.1 y'.2.2.1 y'.2.2.2.1 := by unfold kHd; rw [hh]; rfl
  refine ⟨rfl, rfl, Nat.le_trans (kFr_step hdd) hfr, Nat.le_trans (kLo_step hdd hml9) hlo, k_ws hts o1, (by have z := kws_hd y'; rw [hd] at z; exact z), (by have z := hts _ o1; rw [hd] at z; exact z), hts _ o2, o3, fun sig h => ?_, hts _ hlk⟩
  rw [h] at o4
  exact (Option.some.inj o4).symm
theorem k_met {y' : kMR} {d' mc ms : Nat} {as : List Value} {Φ' : Option Value → kAH → Prop} {Ψ' : String → kAH → Prop} (hM : kC l G y' d' mc ms as h Φ' Ψ') (hX : ∀ E h', ¬ Ψ' E h') : Met l y'.1 (kws y') (krm d' mc ms) (va_Pc as (fun U => kEnv G U U.heap ∧ kHp G h U.heap ∧ G.2.2.1 ≤ U.heap.size)) (kQ G Φ') mc ms (kA G) := by
  intro p e ha hc hk s m args below hf happ hP hT
  obtain ⟨n9, o, g1, g2, g3, g4⟩ := hM p e ha hc hk s m args below hf happ hP hT
  refine ⟨n9, o, g1, g2, g3, ?_⟩
  rcases g4 with g5 | ⟨q, e0, E, ce, LL, ⟨⟨h', e1, e2⟩, e3⟩, g5⟩
  · exact g5
  · exact absurd e1 (hX E h')
theorem k_callV {y' : kMR} {d' mc ms idx nA ci b pc3 : Nat} {as fs : List Value} {r : vw_C} {Φ' : Option Value → kAH → Prop} {Ψ' : String → kAH → Prop} (hd : decode y.2.1 pc = .ok (.invokevirtual idx, 3)) (e3 : pc + 3 = pc3) (hlk : Cond.methodLink y.1.cls idx y'.1 ∈ kW0) (hok : kOkV y' nA) (hnA : as.length = nA) (hst : st = as.reverse ++ .ref b :: rest)
    (hb9 : h b = some (.inr (ci, fs))) (hci : vwCl[ci]? = some r) (hr9 : r.1 = y'.1.cls) (hM : kC l G y' d' mc ms (.ref b :: as) h Φ' Ψ') (hdd : d' < d) (hml9 : y'.2.2.1 ≤ 20) (hmc : mc ≤ k) (hms : ms ≤ n) (hw : (rest.map fun v => v.category).sum ≤ 8)
    (kn : ∀ v h', Φ' v h' → kW l G y d Φ Ψ (k - mc) (n - ms) pc3 L (v.toList ++ rest) h') (kx : ∀ E h', Ψ' E h' → kX l G y d Φ Ψ (k - mc) (n - ms) pc L E h') : kW l G y d Φ Ψ k n pc L st h := by
  intro p e R s m args below meth c H locs cells slots ls F h1 h2 h3 h4 h5
  obtain ⟨hx, hb, hml, hrt, hlocks, hnm, hown, htab, hts, hE, hfr, hlo, hN, hl9⟩ := id F
  obtain ⟨o0, o1, o2, o3⟩ := hok
  refine k_back e3 (vx_runV (C := y'.1.cls) (As := as) (rest := rest) ⟨hx, hb, hml, hown, hts⟩ hM ⟨k_cb hts o0 o1 hlk hfr hlo hdd hml9, hts _ o2, hts _ o3⟩ ⟨kblind, ?_, k_pre hE h3 h4 hN⟩ rfl hnA h5.1 hst (lv_room hw) hd ⟨by omega, by omega⟩) F h1 h2 h4 h5 hmc hms kn kx
  rw [← hr9]
  exact va_recv hE.1 (kHp_one h3 hb9) (ci := ci) (q0 := 0) hci rfl
theorem k_callS {y' : kMR} {d' mc ms idx nA pc3 : Nat} {as : List Value} {Φ' : Option Value → kAH → Prop} {Ψ' : String → kAH → Prop} (hd : decode y.2.1 pc = .ok (.invokestatic idx, 3)) (e3 : pc + 3 = pc3) (hh9 : y'.2.2.2.2 = []) (hlk : Cond.methodLink y.1.cls idx y'.1 ∈ kW0) (hok : kOkS y' nA) (hnA : as.length = nA) (hst : st = as.reverse ++ rest)
    (hM : kC l G y' d' mc ms as h Φ' Ψ') (hdd : d' < d) (hml9 : y'.2.2.1 ≤ 20) (hmc : mc ≤ k) (hms : ms ≤ n) (hw : (rest.map fun v => v.category).sum ≤ 8)
    (kn : ∀ v h', Φ' v h' → kW l G y d Φ Ψ (k - mc) (n - ms) pc3 L (v.toList ++ rest) h') (kx : ∀ E h', Ψ' E h' → kX l G y d Φ Ψ (k - mc) (n - ms) pc L E h') : kW l G y d Φ Ψ k n pc L st h := by
  intro p e R s m args below meth c H locs cells slots ls F h1 h2 h3 h4 h5
  obtain ⟨hx, hb, hml, hrt, hlocks, hnm, hown, htab, hts, hE, hfr, hlo, hN, hl9⟩ := id F
  exact k_back e3 (vx_runS (As := as) (rest := rest) ⟨hx, hb, hml, hown, hts⟩ hM ⟨k_cb hts hh9 hok.1 hlk hfr hlo hdd hml9, hts _ hok.2⟩ ⟨kblind, k_pre hE h3 h4 hN⟩ rfl hnA h5.1 hst (lv_room hw) hd ⟨by omega, by omega⟩) F h1 h2 h4 h5 hmc hms kn kx
-- a static method with handlers of its own
theorem k_callSX {y' : kMR} {d' mc ms idx nA pc3 : Nat} {as : List Value} {Φ' : Option Value → kAH → Prop} {Ψ' : String → kAH → Prop} (hd : decode y.2.1 pc = .ok (.invokestatic idx, 3)) (e3 : pc + 3 = pc3) (hh9 : y'.2.2.2.2.isEmpty = false) (hlk : Cond.methodLink y.1.cls idx y'.1 ∈ kW0) (hok : kOkS y' nA) (hnA : as.length = nA) (hst : st = as.reverse ++ rest)
    (hM : kC l G y' d' mc ms as h Φ' Ψ') (hdd : d' < d) (hml9 : y'.2.2.1 ≤ 20) (hmc : mc ≤ k) (hms : ms ≤ n) (hw : (rest.map fun v => v.category).sum ≤ 8)
    (kn : ∀ v h', Φ' v h' → kW l G y d Φ Ψ (k - mc) (n - ms) pc3 L (v.toList ++ rest) h') (kx : ∀ E h', Ψ' E h' → kX l G y d Φ Ψ (k - mc) (n - ms) pc L E h') : kW l G y d Φ Ψ k n pc L st h := by
  intro p e R s m args below meth c H locs cells slots ls F h1 h2 h3 h4 h5
  obtain ⟨hx, hb, hml, hrt, hlocks, hnm, hown, htab, hts, hE, hfr, hlo, hN, hl9⟩ := id F
  have hHd : kHd y' = Cond.codeWith y'.1 y'.2.1 y'.2.2.1 y'.2.2.2.1 y'.2.2.2.2 := by unfold kHd; rw [hh9]; rfl
  obtain ⟨⟨o1, o2, o3, o4⟩, o5⟩ := hok
  refine k_back e3 (vx_runSX (hh := y'.2.2.2.2) (bytes := y'.2.1) (maxL := y'.2.2.1) (ret := y'.2.2.2.1) (n := nA) (As := as) (rest := rest) ⟨hx, hb, hml, hown, hts⟩ hM ⟨⟨rfl, rfl, Nat.le_trans (kFr_step hdd) hfr, Nat.le_trans (kLo_step hdd hml9) hlo, k_ws hts o1, (by have z := kws_hd y'; rw [hHd] at z; exact z)⟩, (by have z := hts _ o1; rw [hHd] at z; exact z), hts _ o2, o3, fun sig h => ?_, hts _ hlk, hts _ o5⟩ ⟨kblind, k_pre hE h3 h4 hN⟩ rfl hnA h5.1 hst (lv_room hw) hd ⟨by omega, by omega⟩) F h1 h2 h4 h5 hmc hms kn kx
  rw [h] at o4
  exact (Option.some.inj o4).symm
-- a private static method of the nest host
theorem k_callSN {y' : kMR} {d' mc ms idx nA pc3 : Nat} {host : String} {as : List Value} {Φ' : Option Value → kAH → Prop} {Ψ' : String → kAH → Prop} (hd : decode y.2.1 pc = .ok (.invokestatic idx, 3)) (e3 : pc + 3 = pc3) (hh9 : y'.2.2.2.2 = []) (hlk : (y.1.cls, idx, y'.1, host) ∈ kNst) (hok : kOkS y' nA) (hnA : as.length = nA) (hst : st = as.reverse ++ rest)
    (hM : kC l G y' d' mc ms as h Φ' Ψ') (hX : ∀ E h', ¬ Ψ' E h') (hdd : d' < d) (hml9 : y'.2.2.1 ≤ 20) (hmc : mc ≤ k) (hms : ms ≤ n) (hw : (rest.map fun v => v.category).sum ≤ 8)
    (kn : ∀ v h', Φ' v h' → kW l G y d Φ Ψ (k - mc) (n - ms) pc3 L (v.toList ++ rest) h') : kW l G y d Φ Ψ k n pc L st h := by
  intro p e R s m args below meth c H locs cells slots ls F h1 h2 h3 h4 h5
  obtain ⟨hx, hb, hml, hrt, hlocks, hnm, hown, htab, hts, hE, hfr, hlo, hN, hl9⟩ := id F
  have hHd : kHd y' = Cond.code y'.1 y'.2.1 y'.2.2.1 y'.2.2.2.1 := by unfold kHd; rw [hh9]; rfl
  obtain ⟨⟨o1, o2, o3, o4⟩, o5⟩ := hok
  refine k_back e3 (Ψ' := Ψ') (fun T hT X => Or.inl (va_runSN (host := host) (bytes := y'.2.1) (maxL := y'.2.2.1) (ret := y'.2.2.2.1) (n := nA) (As := as) (rest := rest) ⟨hx, hb, hml, hown, hts⟩ (k_met hM hX) ⟨⟨⟨rfl, rfl, Nat.le_trans (kFr_step hdd) hfr, Nat.le_trans (kLo_step hdd hml9) hlo, k_ws hts o1, (by have z := kws_hd y'; rw [hHd] at z; exact z)⟩, (by have z := hts _ o1; rw [hHd] at z; exact z), hts _ o2, o3, fun sig h => ?_, va_Nw.use rfl (hE.2.2.2.2.2.2.2.2.1 _ hlk)⟩, hts _ o5, trivial⟩ ⟨kblind, k_pre hE h3 h4 hN⟩ rfl hnA h5.1 hst (lv_room hw) hd ⟨by omega, by omega⟩ T hT X)) F h1 h2 h4 h5 hmc hms kn (fun E h' z => absurd z (hX E h'))
  rw [h] at o4
  exact (Option.some.inj o4).symm
theorem k_callI {y' : kMR} {d' mc ms idx nA b pc3 : Nat} {as : List Value} {Φ' : Option Value → kAH → Prop} {Ψ' : String → kAH → Prop} (hd : decode y.2.1 pc = .ok (.invokespecial idx, 3)) (e3 : pc + 3 = pc3) (hlk : Cond.methodLink y.1.cls idx y'.1 ∈ kW0) (hok : kOkI y' nA) (hnA : as.length = nA) (hst : st = as.reverse ++ .ref b :: rest)
    (hM : kC l G y' d' mc ms (.ref b :: as) h Φ' Ψ') (hX : ∀ E h', ¬ Ψ' E h') (hdd : d' < d) (hml9 : y'.2.2.1 ≤ 20) (hmc : mc ≤ k) (hms : ms ≤ n) (hw : (rest.map fun v => v.category).sum ≤ 8)
    (kn : ∀ v h', Φ' v h' → kW l G y d Φ Ψ (k - mc) (n - ms) pc3 L (v.toList ++ rest) h') : kW l G y d Φ Ψ k n pc L st h := by
  intro p e R s m args below meth c H locs cells slots ls F h1 h2 h3 h4 h5
  obtain ⟨hx, hb, hml, hrt, hlocks, hnm, hown, htab, hts, hE, hfr, hlo, hN, hl9⟩ := id F
  obtain ⟨o0, o9, o1, o2, o3⟩ := hok
  have cb := k_cb (R := R) (mc := mc) (ms := ms) (d' := d') hts o0 o1 hlk hfr hlo hdd hml9
  rw [o9] at cb
  exact k_back e3 (Ψ' := Ψ') (fun T hT X => Or.inl (va_runI (As := as) (rest := rest) ⟨hx, hb, hml, hown, hts⟩ (k_met hM hX) ⟨cb, o2, hts _ o3⟩ ⟨kblind, k_pre hE h3 h4 hN⟩ rfl hnA h5.1 hst (lv_room hw) hd ⟨by omega, by omega⟩ T hT X)) F h1 h2 h4 h5 hmc hms kn (fun E h' z => absurd z (hX E h'))
end KC
