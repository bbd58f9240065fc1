/-! ===== THE LAYER: the heap as a map from addresses to what lies there; one judgement over it; contracts ===== -/
-- G: what the tables say (class numbers and slots; numbers of array classes), the first address that is ours, the empty row of ArrayList
abbrev kG : Type := va_G × (Nat → ClassId) × Nat × Nat
abbrev kAH : Type := Nat → Option va_E
-- a method: name, bytes, locals, what it answers, its handlers
abbrev kMR : Type := MethodName × ByteArray × Nat × Option FieldType × List (Nat × Nat × Nat × Nat)
def iI (z : Int) : Int32 := Int32.ofInt z
theorem iI_add (a b : Int) : iI a + iI b = iI (a + b) := (Int32.ofInt_add a b).symm
theorem iI_mul (a b : Int) : iI a * iI b = iI (a * b) := (Int32.ofInt_mul a b).symm
theorem iI_sub (a b : Int) : iI a - iI b = iI (a - b) := by
  rw [Int32.sub_eq_add_neg]
  have h : -iI b = iI (-b) := (Int32.ofInt_neg b).symm
  rw [h, iI_add]; rfl
theorem iI_neg (b : Int) : -iI b = iI (-b) := (Int32.ofInt_neg b).symm
theorem iI_toInt {z : Int} (h1 : -2147483648 ≤ z) (h2 : z < 2147483648) : (iI z).toInt = z := Int32.toInt_ofInt_of_le (by omega) (by omega)
theorem iI_of (x : Int32) : iI x.toInt = x := Int32.ofInt_toInt x
theorem iI_rng (x : Int32) : ∃ z : Int, x = iI z ∧ -2147483648 ≤ z ∧ z < 2147483648 :=
  ⟨x.toInt, (iI_of x).symm, by have := x.le_toInt; omega, by have := x.toInt_lt; omega⟩
theorem iI_lt {a b : Int} (h1 : -2147483648 ≤ a ∧ a < 2147483648) (h2 : -2147483648 ≤ b ∧ b < 2147483648) : iI a < iI b ↔ a < b := by
  rw [Int32.lt_iff_toInt_lt, iI_toInt h1.1 h1.2, iI_toInt h2.1 h2.2]
theorem iI_le {a b : Int} (h1 : -2147483648 ≤ a ∧ a < 2147483648) (h2 : -2147483648 ≤ b ∧ b < 2147483648) : iI a ≤ iI b ↔ a ≤ b := by
  rw [Int32.le_iff_toInt_le, iI_toInt h1.1 h1.2, iI_toInt h2.1 h2.2]
theorem iI_eq {a b : Int} (h1 : -2147483648 ≤ a ∧ a < 2147483648) (h2 : -2147483648 ≤ b ∧ b < 2147483648) : iI a = iI b ↔ a = b := by
  rw [← Int32.toInt_inj, iI_toInt h1.1 h1.2, iI_toInt h2.1 h2.2]
theorem iI_cl {a : Int} (h1 : 0 ≤ a) (h2 : a < 2147483648) : (iI a).toNatClampNeg = a.toNat := by
  show (iI a).toInt.toNat = _
  rw [iI_toInt (by omega) h2]
theorem iI_in {a : Int} {n : Nat} (h1 : 0 ≤ a) (h2 : a < n) (h3 : a < 2147483648) : vp_in (iI a) n := by
  rw [vp_in_iff, iI_toInt (by omega) h3]; omega
def kup (h : kAH) (a : Nat) (e : va_E) : kAH := fun b => if b = a then some e else h b
theorem kup_same (h : kAH) (a : Nat) (e : va_E) : kup h a e a = some e := if_pos rfl
theorem kup_ne {h : kAH} {a b : Nat} {e : va_E} (hb : b ≠ a) : kup h a e b = h b := if_neg hb
def kA (G : kG) : Nat → Prop := fun q => G.2.2.1 ≤ q
abbrev kTys (G : kG) : List (ClassId × FieldType) := [(G.2.1 0, .int), (G.2.1 1, .long), (G.2.1 2, .double), (G.2.1 3, .object "java/lang/Object"), (G.2.1 4, .object "CalendaryPlanner$Day"), (G.2.1 5, .object "CalendaryPlanner$Room")]
def kHp (G : kG) (h : kAH) (H : Heap) : Prop := ∀ (a : Nat) (e : va_E), h a = some e → kA G a ∧ va_at G.1 vwCl (a, e) H
def kEn (h : kAH) (n : Nat) : va_W := (List.range n).filterMap (fun b => (h b).map (fun e => (b, e)))
theorem kEn_mem {h : kAH} {n b : Nat} {e : va_E} : (b, e) ∈ kEn h n ↔ b < n ∧ h b = some e := by
  unfold kEn
  rw [List.mem_filterMap]
  constructor
  · rintro ⟨a, ha, h1⟩
    rw [Option.map_eq_some_iff] at h1
    obtain ⟨e', h2, h3⟩ := h1
    cases h3
    exact ⟨List.mem_range.mp ha, h2⟩
  · rintro ⟨h1, h2⟩
    exact ⟨b, List.mem_range.mpr h1, by rw [h2]; rfl⟩
theorem kEn_inj {h : kAH} {n : Nat} {i j : Nat} {p q : Nat × va_E} (hi : (kEn h n)[i]? = some p) (hj : (kEn h n)[j]? = some q) (e : p.1 = q.1) : i = j := by
  have hp : List.Pairwise (fun (p q : Nat × va_E) => p.1 < q.1) (kEn h n) := by
    unfold kEn
    rw [List.pairwise_filterMap]
    refine List.Pairwise.imp ?_ (List.pairwise_lt_range (n := n))
    intro a b hab x hx y hy
    rw [Option.map_eq_some_iff] at hx hy
    obtain ⟨_, -, rfl⟩ := hx
    obtain ⟨_, -, rfl⟩ := hy
    exact hab
  obtain ⟨hi1, hi2⟩ := List.getElem?_eq_some_iff.mp hi
  obtain ⟨hj1, hj2⟩ := List.getElem?_eq_some_iff.mp hj
  have hg := List.pairwise_iff_getElem.mp hp
  rcases Nat.lt_trichotomy i j with c | c | c
  · have := hg i j hi1 hj1 c
    rw [hi2, hj2] at this; omega
  · exact c
  · have := hg j i hj1 hi1 c
    rw [hi2, hj2] at this; omega
theorem kHp_lt {G : kG} {h : kAH} {H : Heap} (hp : kHp G h H) {a : Nat} {e : va_E} (ha : h a = some e) : a < H.size := (hp a e ha).2.lt
theorem kHp_P {G : kG} {h : kAH} {H : Heap} (hp : kHp G h H) : va_P G.1 vwCl (kEn h H.size) H := fun k q hk => (hp q.1 q.2 (kEn_mem.mp (List.mem_of_getElem? hk)).2).2
theorem kHp_D {G : kG} {h : kAH} {H : Heap} (hp : kHp G h H) : va_D (kA G) (kEn h H.size) := ⟨fun i j p q hi hj e => kEn_inj hi hj e, fun k q hk => (hp q.1 q.2 (kEn_mem.mp (List.mem_of_getElem? hk)).2).1⟩
theorem kHp_pl {G : kG} {h : kAH} {H : Heap} (hp : kHp G h H) {a : Nat} {e : va_E} (ha : h a = some e) : ∃ k : Nat, (kEn h H.size)[k]? = some (a, e) := List.getElem?_of_mem (kEn_mem.mpr ⟨kHp_lt hp ha, ha⟩)
theorem kHp_one {G : kG} {h : kAH} {H : Heap} (hp : kHp G h H) {a : Nat} {e : va_E} (ha : h a = some e) : va_P G.1 vwCl [(a, e)] H := by
  intro k q hk
  have hz : k < 1 := (List.getElem?_eq_some_iff.mp hk).1
  rw [show k = 0 by omega] at hk
  cases hk
  exact (hp a e ha).2
theorem kHp_set {G : kG} {h : kAH} {H H1 : Heap} {a k : Nat} {e0 e' : va_E} (hp : kHp G h H) (hk : (kEn h H.size)[k]? = some (a, e0)) (hP : va_P G.1 vwCl ((kEn h H.size).set k (a, e')) H1) : kHp G (kup h a e') H1 := by
  intro b e hb
  have hl := (List.getElem?_eq_some_iff.mp hk).1
  by_cases c : b = a
  · subst c
    rw [kup_same] at hb
    cases hb
    exact ⟨(hp b e0 (kEn_mem.mp (List.mem_of_getElem? hk)).2).1, hP k (b, e') (List.getElem?_set_self hl)⟩
  · rw [kup_ne c] at hb
    obtain ⟨j, hj⟩ := kHp_pl hp hb
    have hjk : k ≠ j := by
      intro e9
      subst e9
      rw [hk] at hj
      cases hj
      exact c rfl
    exact ⟨(hp b e hb).1, hP j (b, e) (by rw [List.getElem?_set_ne hjk]; exact hj)⟩
theorem kHp_push {G : kG} {h : kAH} {H H1 : Heap} {q : Nat} {e' : va_E} (hp : kHp G h H) (hP : va_P G.1 vwCl (kEn h H.size ++ [(q, e')]) H1) (hD : va_D (kA G) (kEn h H.size ++ [(q, e')])) : kHp G (kup h q e') H1 ∧ h q = none := by
  have hq : (kEn h H.size ++ [(q, e')])[(kEn h H.size).length]? = some (q, e') := by
    rw [List.getElem?_append_right (Nat.le_refl _), Nat.sub_self]; rfl
  have hn : h q = none := by
    cases c : h q with
    | none => rfl
    | some e =>
      obtain ⟨j, hj⟩ := kHp_pl hp c
      have hl := (List.getElem?_eq_some_iff.mp hj).1
      have := hD.1 j _ (q, e) (q, e') (by rw [List.getElem?_append_left hl]; exact hj) hq rfl
      omega
  refine ⟨fun b e hb => ?_, hn⟩
  by_cases c : b = q
  · subst c
    rw [kup_same] at hb
    cases hb
    exact ⟨hD.2 _ _ hq, hP _ _ hq⟩
  · rw [kup_ne c] at hb
    obtain ⟨j, hj⟩ := kHp_pl hp hb
    have hl := (List.getElem?_eq_some_iff.mp hj).1
    exact ⟨(hp b e hb).1, hP j (b, e) (by rw [List.getElem?_append_left hl]; exact hj)⟩
theorem kHp_kept {G : kG} {h : kAH} {H H1 : Heap} (hp : kHp G h H) (hk : ∀ q : Nat, q < H.size → H1[q]? = H[q]?) : kHp G h H1 := fun a e ha => ⟨(hp a e ha).1, (hp a e ha).2.kept (hk a (kHp_lt hp ha))⟩
-- the words that may be handed to callees
def kW0 : List Cond := lw_tbl.filter goodWord
theorem kW0_in {w : Cond} (h : w ∈ lw_tbl) (g : goodWord w = true) : w ∈ kW0 := List.mem_filter.mpr ⟨h, g⟩
theorem kW0_good : GoodIn kW0 kW0 := fun w h => ⟨h, good_of_word (List.mem_filter.mp h).2⟩
def kHd (y : kMR) : Cond := if y.2.2.2.2.isEmpty then Cond.code y.1 y.2.1 y.2.2.1 y.2.2.2.1 else Cond.codeWith y.1 y.2.1 y.2.2.1 y.2.2.2.1 y.2.2.2.2
def kws (y : kMR) : List Cond := kHd y :: kW0
def kLo (d : Nat) : Nat := 60 * d + 300
def kFr (d : Nat) : Nat := d + 8
theorem kLo_step {d d' m : Nat} (h : d' < d) (hm : m ≤ 20) : 8 + (m + 11) + kLo d' ≤ kLo d := by
  unfold kLo; omega
theorem kFr_step {d d' : Nat} (h : d' < d) : kFr d' + 1 ≤ kFr d := by
  unfold kFr; omega
theorem kLo_ge (d : Nat) : 300 ≤ kLo d := by
  unfold kLo; omega
theorem kFr_ge (d : Nat) : 8 ≤ kFr d := by
  unfold kFr; omega
abbrev krm (d mc ms : Nat) : Room := { frames := kFr d, cells := mc, slots := ms, locals := kLo d }
-- words of members and casts: they are carried by themselves
def kFace : List Cond := lw_tbl.filter (fun w => w.faceAtom && w.onTables)
theorem kFace_in {w : Cond} (h : w ∈ lw_tbl) (g : (w.faceAtom && w.onTables) = true) : w ∈ kFace := List.mem_filter.mpr ⟨h, g⟩
theorem kFace_on {w : Cond} (h : w ∈ kFace) : w.faceAtom = true ∧ w.onTables = true := Bool.and_eq_true_iff.mp (List.mem_filter.mp h).2
theorem kFace_moved {w : Cond} (h : w ∈ kFace) {s U : State} (hW : s.WarmedH U.vm) (hb : va_Nw w s) : va_Nw w U := by
  obtain ⟨h1, h2⟩ := kFace_on h
  exact va_tabs h2 (rfl : (s.setVm U.vm).vm = U.vm) (Cond.faceAtom_setVm hW.alike w h1 hb)
-- the script: its address, its length, its ints stand behind the numbers of the array classes
def kScF (G : kG) (j : Nat) : Int := ((G.2.1 (9 + j) : Nat) : Int) - 2147483648
def kScr (G : kG) (s : State) (H : Heap) : Prop := va_X (G.2.1 7) (G.2.1 8) (fun j => iI (kScF G j)) s H ∧ ¬ kA G (G.2.1 7)
theorem kScr_lt {G : kG} {s : State} {H : Heap} (h : kScr G s H) : G.2.1 7 < H.size := by
  obtain ⟨⟨scr, h1, -⟩, -⟩ := h
  exact (Array.getElem?_eq_some_iff.mp h1).1
-- texts of exceptions (class, place, text); pairs of classes that can't be cast, that can
def kEnv (G : kG) (s : State) (H : Heap) : Prop :=
  va_K G.1 vwCl (kTys G) s ∧ vx_Zq Bundle.tN "UNASSIGNED_STACK" Bundle.steD (kA G) s H ∧ vx_Zq Bundle.tN "SUPPRESSED_SENTINEL" Bundle.listD (kA G) s H ∧
  va_Z "java/util/ArrayList" "DEFAULTCAPACITY_EMPTY_ELEMENTDATA" "[Ljava/lang/Object;" (.ref G.2.2.2) (kA G) s H ∧ va_T (.object "java/lang/Object") G.2.2.2 0 (fun _ => .null) (kA G) s H ∧
  (∀ q ∈ kStrs, ∃ a : Nat, vk_R q.1 q.2.1 q.2.2 a s) ∧ (∀ q ∈ kNcs, va_Nc q.1 q.2 s) ∧ (∀ q ∈ kCas, va_Nw (.castable q.1 q.2) s) ∧ (∀ q ∈ kNst, va_Nw (.methodLinkNest q.1 q.2.1 q.2.2.1 q.2.2.2) s) ∧
  va_AO "java/lang/Object" s ∧ va_AO "CalendaryPlanner$Day" s ∧ va_AO "CalendaryPlanner$Room" s ∧ va_Dc s ∧ va_Mi "[Ljava/lang/Object;" (G.2.1 6) s ∧ (∀ w ∈ kFace, va_Nw w s) ∧ kScr G s H
theorem kEnv_moved {G : kG} {s U : State} {H H1 : Heap} (h : kEnv G s H) (hW : s.WarmedH U.vm) (hk : ∀ q : Nat, q < H.size → ¬ kA G q → H1[q]? = H[q]?) : kEnv G U H1 := by
  obtain ⟨h1, h2, h3, h4, h5, h6, h7, h8, h9, h10, h11, h12, h13, h14, h15, h16⟩ := h
  exact ⟨va_K.moved hW.alike h1, (vx_Zq.moved hW.alike h2).kept hk, (vx_Zq.moved hW.alike h3).kept hk, (va_Z.moved hW.alike h4).kept hk, (va_T.moved hW.alike h5).kept hk,
    fun q hq => (h6 q hq).imp fun a h => vk_R.warm hW h, fun q hq => va_Nc.moved hW.alike (h7 q hq), fun q hq => va_Nw.warmC hW (h8 q hq), fun q hq => va_Nw.warmM hW (h9 q hq),
    va_AO.moved hW.alike h10, va_AO.moved hW.alike h11, va_AO.moved hW.alike h12, va_Dc.moved hW.alike h13, va_Mi.moved hW.alike h14, fun w hw => kFace_moved hw hW (h15 w hw), (va_X.moved hW.alike h16.1).kept (hk _ (kScr_lt h16) h16.2), h16.2⟩
-- the judgement: from pc, with the locals L, the stack st, the heap h, k cells and n slots to spend: the method comes to an end that Φ (its answer, the heap) or Ψ (what it throws, the heap) allows
def kpr : Nat → List (Option Value) → List (Nat × Value)
  | _, [] => []
  | i, none :: r => kpr (i + 1) r
  | i, some v :: r => (i, v) :: kpr (i + 1) r
theorem kpr_mem : ∀ (L : List (Option Value)) (i j : Nat) (v : Value), (j, v) ∈ kpr i L ↔ i ≤ j ∧ L[j - i]? = some (some v)
  | [], i, j, v => by simp [kpr]
  | none :: r, i, j, v => by
    have ih := kpr_mem r (i + 1) j v
    show (j, v) ∈ kpr (i + 1) r ↔ _
    rw [ih]
    constructor
    · rintro ⟨h1, h2⟩
      refine ⟨by omega, ?_⟩
      rw [show j - i = (j - (i + 1)) + 1 by omega, List.getElem?_cons_succ]
      exact h2
    · rintro ⟨h1, h2⟩
      by_cases c : j = i
      · subst c
        rw [Nat.sub_self, List.getElem?_cons_zero] at h2
        cases h2
      · rw [show j - i = (j - (i + 1)) + 1 by omega, List.getElem?_cons_succ] at h2
        exact ⟨by omega, h2⟩
  | some w :: r, i, j, v => by
    have ih := kpr_mem r (i + 1) j v
    show (j, v) ∈ (i, w) :: kpr (i + 1) r ↔ _
    rw [List.mem_cons, ih]
    constructor
    · rintro (h | ⟨h1, h2⟩)
      · cases h
        exact ⟨Nat.le_refl _, by rw [Nat.sub_self]; rfl⟩
      · refine ⟨by omega, ?_⟩
        rw [show j - i = (j - (i + 1)) + 1 by omega, List.getElem?_cons_succ]
        exact h2
    · rintro ⟨h1, h2⟩
      by_cases c : j = i
      · subst c
        rw [Nat.sub_self, List.getElem?_cons_zero] at h2
        cases h2
        exact Or.inl rfl
      · rw [show j - i = (j - (i + 1)) + 1 by omega, List.getElem?_cons_succ] at h2
        exact Or.inr ⟨by omega, h2⟩
theorem klo {ls : Array Slot} {nL : Nat} {L : List (Option Value)} (hl : lv_has ls nL (kpr 0 L)) {i : Nat} {v : Value} (h : L[i]? = some (some v)) : ls[i]? = some (.val v) := hl.2.2 (i, v) ((kpr_mem L 0 i v).mpr ⟨Nat.zero_le _, h⟩)
def kclr (L : List (Option Value)) : Nat → List (Option Value)
  | 0 => L
  | i + 1 => match L[i]? with
    | some (some v) => if v.category = 2 then L.set i none else L
    | _ => L
abbrev kset1 (L : List (Option Value)) (i : Nat) (v : Value) : List (Option Value) := (kclr L i).set i (some v)
abbrev kset2 (L : List (Option Value)) (i : Nat) (v : Value) : List (Option Value) := ((kclr L i).set i (some v)).set (i + 1) none
theorem kclr_get {L : List (Option Value)} {i j : Nat} {w : Value} (h : (kclr L i)[j]? = some (some w)) : L[j]? = some (some w) ∧ ¬ (j + 1 = i ∧ w.category = 2) := by
  cases i with
  | zero => exact ⟨h, fun q => absurd q.1 (by omega)⟩
  | succ i =>
    rw [kclr] at h
    split at h
    · rename_i v hv
      split at h
      · rename_i hc
        by_cases e : j = i
        · subst e
          rw [List.getElem?_set_self (List.getElem?_eq_some_iff.mp hv).1] at h
          cases h
        · rw [List.getElem?_set_ne (Ne.symm e)] at h
          exact ⟨h, fun q => e (by omega)⟩
      · rename_i hc
        refine ⟨h, fun q => ?_⟩
        have e : j = i := by omega
        subst e
        rw [hv] at h
        cases h
        exact hc q.2
    · rename_i hv
      refine ⟨h, fun q => ?_⟩
      have e : j = i := by omega
      subst e
      exact hv w h
theorem kset1_has {ls : Array Slot} {nL : Nat} {L : List (Option Value)} {i : Nat} {v : Value} (h : lv_has ls nL ((i, v) :: (kpr 0 L).filter (fun q => !(q.1 == i) && !(q.1 + 1 == i && q.2.category == 2)))) : lv_has ls nL (kpr 0 (kset1 L i v)) := by
  refine ⟨h.1, h.2.1, fun q hq => ?_⟩
  obtain ⟨j, w⟩ := q
  obtain ⟨-, h1⟩ := (kpr_mem _ _ _ _).mp hq
  rw [Nat.sub_zero] at h1
  refine h.2.2 (j, w) ?_
  by_cases e : j = i
  · subst e
    have hl : j < (kclr L j).length := by
      have := (List.getElem?_eq_some_iff.mp h1).1
      rw [List.length_set] at this
      exact this
    rw [List.getElem?_set_self hl] at h1
    cases h1
    exact List.mem_cons_self
  · rw [List.getElem?_set_ne (Ne.symm e)] at h1
    obtain ⟨g1, g2⟩ := kclr_get h1
    refine List.mem_cons_of_mem _ (List.mem_filter.mpr ⟨(kpr_mem L 0 j w).mpr ⟨Nat.zero_le _, g1⟩, ?_⟩)
    simp only [Bool.and_eq_true, Bool.not_eq_true', beq_eq_false_iff_ne, ne_eq, Bool.and_eq_false_iff]
    refine ⟨e, ?_⟩
    by_cases c : j + 1 = i
    · exact Or.inr fun z => g2 ⟨c, z⟩
    · exact Or.inl c
theorem kset2_has {ls : Array Slot} {nL : Nat} {L : List (Option Value)} {i : Nat} {v : Value} (h : lv_has ls nL ((i, v) :: (kpr 0 L).filter (fun q => !(q.1 == i) && (!(q.1 == i + 1) && !(q.1 + 1 == i && q.2.category == 2))))) : lv_has ls nL (kpr 0 (kset2 L i v)) := by
  refine ⟨h.1, h.2.1, fun q hq => ?_⟩
  obtain ⟨j, w⟩ := q
  obtain ⟨-, h1⟩ := (kpr_mem _ _ _ _).mp hq
  rw [Nat.sub_zero] at h1
  refine h.2.2 (j, w) ?_
  by_cases e2 : j = i + 1
  · subst e2
    have hl : i + 1 < ((kclr L i).set i (some v)).length := by
      have := (List.getElem?_eq_some_iff.mp h1).1
      rw [List.length_set] at this
      exact this
    rw [List.getElem?_set_self hl] at h1
    cases h1
  · rw [List.getElem?_set_ne (Ne.symm e2)] at h1
    by_cases e : j = i
    · subst e
      have hl : j < (kclr L j).length := by
        have := (List.getElem?_eq_some_iff.mp h1).1
        rw [List.length_set] at this
        exact this
      rw [List.getElem?_set_self hl] at h1
      cases h1
      exact List.mem_cons_self
    · rw [List.getElem?_set_ne (Ne.symm e)] at h1
      obtain ⟨g1, g2⟩ := kclr_get h1
      refine List.mem_cons_of_mem _ (List.mem_filter.mpr ⟨(kpr_mem L 0 j w).mpr ⟨Nat.zero_le _, g1⟩, ?_⟩)
      simp only [Bool.and_eq_true, Bool.not_eq_true', beq_eq_false_iff_ne, ne_eq, Bool.and_eq_false_iff]
      refine ⟨e, e2, ?_⟩
      by_cases c : j + 1 = i
      · exact Or.inr fun z => g2 ⟨c, z⟩
      · exact Or.inl c
def kFX (l : Launch) (G : kG) (y : kMR) (d : Nat) (p : Program) (R : Room) (s : State) (m : MethodId) (args : Array Value) (meth : Method) (c : Code) : Prop :=
  p.tables.exec = Jvm.exec ∧ c.code = y.2.1 ∧ c.maxLocals = y.2.2.1 ∧ meth.sig.returnType = y.2.2.2.1 ∧ meth.locks = false ∧ meth.name = y.1.name ∧ s.vm.findClass y.1.cls = some m.cls ∧ c.exceptionTable.toList = tableOf y.2.2.2.2 ∧
  (∀ w ∈ kW0, w.before args s = true) ∧ kEnv G s s.heap ∧ kFr d ≤ R.frames ∧ kLo d ≤ R.locals ∧ G.2.2.1 ≤ s.heap.size ∧ l.stackTraces = false
def kQ (G : kG) (Φ : Option Value → kAH → Prop) : Array Value → State → Outcome → State → Prop := fun _ st o t => (∃ (v : Option Value) (h' : kAH), o = .returned v ∧ Φ v h' ∧ kHp G h' t.heap) ∧ va_F (kA G) st t
def kQX (G : kG) (Ψ : String → kAH → Prop) : String → State → State → Prop := fun E st t => (∃ h' : kAH, Ψ E h' ∧ kHp G h' t.heap) ∧ va_F (kA G) st t
def kW (l : Launch) (G : kG) (y : kMR) (d : Nat) (Φ : Option Value → kAH → Prop) (Ψ : String → kAH → Prop) (k n pc : Nat) (L : List (Option Value)) (st : List Value) (h : kAH) : Prop :=
  ∀ (p : Program) (e : Env) (R : Room) (s : State) (m : MethodId) (args : Array Value) (below : List Frame) (meth : Method) (c : Code) (H : Heap) (locs : List Loc) (cells slots : Nat) (ls : Array Slot),
  kFX l G y d p R s m args meth c → cells + k ≤ R.cells → slots + n ≤ R.slots → kHp G h H → va_S (kA G) s.heap H locs → lv_has ls y.2.2.1 (kpr 0 L) →
  W p l e R s m args below meth c H locs cells slots (vx_MQ below (kQ G Φ) (kQX G Ψ) args s R.cells R.slots (kA G)) (F0 m pc ls st)
-- what y, called with the values as in the heap h, with mc cells and ms slots to spend, comes to
def kC (l : Launch) (G : kG) (y : kMR) (d mc ms : Nat) (as : List Value) (h : kAH) (Φ : Option Value → kAH → Prop) (Ψ : String → kAH → Prop) : Prop :=
  vx_Met l y.1 (kws y) (krm d mc ms) (va_Pc as (fun U => kEnv G U U.heap ∧ kHp G h U.heap ∧ G.2.2.1 ≤ U.heap.size)) (kQ G Φ) (kQX G Ψ) mc ms (kA G)
theorem kblind {G : kG} {as : List Value} {h : kAH} : FrameBlind (va_Pc as (fun U => kEnv G U U.heap ∧ kHp G h U.heap ∧ G.2.2.1 ≤ U.heap.size)) := by
  intro a U g mk q
  obtain ⟨q0, q1, q2, q3⟩ := q
  exact ⟨q0, kEnv_moved (U := U.calling g mk a) q1 (State.WarmedH.refl U) (fun _ _ _ => rfl), q2, q3⟩
