/-! ===== what the reference answers: code, value, row afterwards ===== -/
noncomputable def frF (f : Nat → Int) (p k t : Int) : Prop := bsyF f (-1) (-1) (2 ^ p.toNat) k t 1 < 0
noncomputable def rmF (f : Nat → Int) (q : Nat) (k t n : Int) : Int := kI (0 ≤ bsyF f (-1) (-1) q k t n) (-1) (smlF f (-1) (-1) q k t n)
def ckP (f : Nat → Int) (m d p m' d' : Int) : Prop := ¬(m' = m ∧ d' = d) ∧ onF f m' d' ∧ (m' = m ∨ exF f m' p) ∧ dF f m' d' 0 = dF f m d 0 ∧ tnP f (dF f m d 3) m' d' (btF f m' d' (dF f m d 1) (oF f m 2))
def clF (f : Nat → Int) (m d p : Int) : Prop := ∃ m' d' : Int, inP f m' d' ∧ ckP f m d p m' d'
def miP (f : Nat → Int) (m d p m' d' : Int) : Prop := ¬(m' = m ∧ d' = d) ∧ onF f m' d' ∧ exF f m' p ∧ dF f m' d' 0 = dF f m d 0 ∧ btF f m' d' (dF f m d 1) (oF f m 2) < 0
def miF (f : Nat → Int) (m d p : Int) : Prop := ∃ m' d' : Int, inP f m' d' ∧ miP f m d p m' d'
theorem alI_ex {f : Nat → Int} {B : Int → Int → Prop} {m : Int} (h : alI f B m 0) (hm : m = f 1) : ¬ ∃ m' d' : Int, inP f m' d' ∧ B m' d' := fun ⟨m', d', h1, h2⟩ => alI_e h hm m' d' h1 h2
-- a number is found twice never; a person is at one date at a time
theorem wf_one {f : Nat → Int} (hW : kWf f) {m d m' d' p t : Int} (hp : 0 ≤ p ∧ p < 6) (h1 : inP f m d) (h2 : inP f m' d') (o1 : onF f m d) (o2 : onF f m' d') (hk : dF f m d 0 = dF f m' d' 0)
    (t1 : dF f m d 1 ≤ t ∧ t < dF f m d 1 + oF f m 2) (t2 : dF f m' d' 1 ≤ t ∧ t < dF f m' d' 1 + oF f m' 2) (e1 : exF f m p) (e2 : exF f m' p) : m = m' ∧ d = d' := by
  by_cases c : m = m' ∧ d = d'
  · exact c
  · exact absurd ⟨e1, e2⟩ ((hW.2.2.2.2.2.2.2.2.2.2 m d m' d' h1.1 h1.2.1 h1.2.2.1 h1.2.2.2 h2.1 h2.2.1 h2.2.2.1 h2.2.2.2 c o1 o2 hk (by omega) (by omega)).2 p hp.1 hp.2)
-- the meeting of a person at a time
def maP (f : Nat → Int) (p k t m d : Int) : Prop := exF f m p ∧ ctF f (-1) (-1) m d k ∧ btF f m d t 1 < 0
noncomputable def mwF (f : Nat → Int) (p k t : Int) : Int := kls (fun m => ∃ d : Int, inP f m d ∧ maP f p k t m d) (f 1).toNat
def moI (f : Nat → Int) (p k t m d x : Int) : Prop := (x = -1 ∧ alI f (maP f p k t) m d) ∨ ∃ m' d' : Int, lxP f m d m' d' ∧ maP f p k t m' d' ∧ x = oF f m' 0
theorem moI_0 {f : Nat → Int} {p k t : Int} : moI f p k t 0 0 (-1) := Or.inl ⟨rfl, alI_0⟩
theorem moI_skip {f : Nat → Int} {p k t m d x : Int} (h : moI f p k t m d x) (hd : 0 ≤ d) (hx : ¬ maP f p k t m d) : moI f p k t m (d + 1) x := by
  rcases h with ⟨h1, h2⟩ | ⟨m', d', h1, h2⟩
  · exact Or.inl ⟨h1, alI_s h2 hd hx⟩
  · exact Or.inr ⟨m', d', (lx_s hd).mpr (Or.inl h1), h2⟩
theorem moI_take {f : Nat → Int} {p k t m d x : Int} (hd : 0 ≤ d) (hx : maP f p k t m d) : moI f p k t m (d + 1) (oF f m 0) := Or.inr ⟨m, d, (lx_s hd).mpr (Or.inr ⟨rfl, rfl⟩), hx, rfl⟩
theorem moI_next {f : Nat → Int} {p k t m d x : Int} (h : moI f p k t m d x) (hm : 0 ≤ m) (hd : d = oF f m 3) : moI f p k t (m + 1) 0 x := by
  rcases h with ⟨h1, h2⟩ | ⟨m', d', h1, h2⟩
  · exact Or.inl ⟨h1, alI_n h2 hm hd⟩
  · exact Or.inr ⟨m', d', (lx_n hm hd).mpr h1, h2⟩
theorem maP_t {f : Nat → Int} {p k t m d : Int} (hW : kWf f) (hi : inP f m d) (h : maP f p k t m d) : dF f m d 1 ≤ t ∧ t < dF f m d 1 + oF f m 2 := by
  have h1 := btF_neg.mp h.2.2
  have h2 := kWf_m hW hi.1 hi.2.1
  omega
theorem frF_iff {f : Nat → Int} {p k t : Int} (hp : 0 ≤ p ∧ p < 6) : frF f p k t ↔ ¬ ∃ m d : Int, inP f m d ∧ maP f p k t m d := by
  obtain ⟨q, rfl⟩ := Int.eq_ofNat_of_zero_le hp.1
  unfold frF bsyF
  rw [Int.toNat_natCast]
  rcases kls_spec (fun p => (2 ^ q).testBit p = true ∧ bsP f (-1) (-1) k t 1 (p : Int)) 6 with ⟨h1, h2⟩ | ⟨i, h1, h2, h3, -⟩
  · rw [h1]
    refine ⟨fun _ ⟨m, d, g1, g2, g3, g4⟩ => h2 q (by omega) ⟨by rw [Nat.testBit_two_pow, decide_eq_true_eq], m, d, g1, g3, g4, g2⟩, fun _ => by decide⟩
  · rw [h1]
    refine ⟨fun z => absurd z (by omega), fun z => absurd ?_ z⟩
    obtain ⟨h3, m, d, g1, g3, g4, g2⟩ := h3
    rw [Nat.testBit_two_pow, decide_eq_true_eq] at h3
    subst h3
    exact ⟨m, d, g1, g2, g3, g4⟩
theorem moI_end {f : Nat → Int} {p k t m x : Int} (hW : kWf f) (hp : 0 ≤ p ∧ p < 6) (h : moI f p k t m 0 x) (hm : m = f 1) (hf : ¬ frF f p k t) : x = oF f (mwF f p k t) 0 := by
  rcases h with ⟨-, h2⟩ | ⟨m', d', h1, h2, h3⟩
  · exact absurd ((frF_iff hp).mpr (alI_ex h2 hm)) hf
  · have hi := (lx_e hm).mp h1
    rw [h3]
    unfold mwF
    rcases kls_spec (fun m => ∃ d : Int, inP f m d ∧ maP f p k t m d) (f 1).toNat with ⟨-, g2⟩ | ⟨i, g1, -, ⟨d2, g3, g4⟩, -⟩
    · obtain ⟨j, rfl⟩ := Int.eq_ofNat_of_zero_le hi.1
      exact absurd ⟨d', hi, h2⟩ (g2 j (by have := hi.2.1; omega))
    · rw [g1]
      obtain ⟨e, -⟩ := wf_one hW hp hi g3 h2.2.1.1 g4.2.1.1 (h2.2.1.2.1.trans g4.2.1.2.1.symm) (maP_t hW hi h2) (maP_t hW g3 g4) h2.1 g4.1
      rw [e]
-- free times one after another
noncomputable def lgN (P : Nat → Prop) : Nat → Int
  | 0 => 0
  | i + 1 => kI (P i) (lgN P i + 1) 0
noncomputable def lgB (P : Nat → Prop) : Nat → Int
  | 0 => 0
  | i + 1 => kI (lgB P i < lgN P (i + 1)) (lgN P (i + 1)) (lgB P i)
theorem lgN_r (P : Nat → Prop) : ∀ i : Nat, 0 ≤ lgN P i ∧ lgN P i ≤ (i : Int)
  | 0 => by rw [lgN]; omega
  | i + 1 => by
    have h := lgN_r P i
    rw [lgN]
    by_cases c : P i
    · rw [kI_t c]; omega
    · rw [kI_f c]; omega
theorem lgB_r (P : Nat → Prop) : ∀ i : Nat, 0 ≤ lgB P i ∧ lgB P i ≤ (i : Int)
  | 0 => by rw [lgB]; omega
  | i + 1 => by
    have h := lgB_r P i
    have h2 := lgN_r P (i + 1)
    rw [lgB]
    by_cases c : lgB P i < lgN P (i + 1)
    · rw [kI_t c]; omega
    · rw [kI_f c]; omega
theorem lg_cg {P Q : Nat → Prop} : ∀ {i : Nat}, (∀ j, j < i → (P j ↔ Q j)) → lgN P i = lgN Q i ∧ lgB P i = lgB Q i
  | 0, _ => ⟨rfl, rfl⟩
  | i + 1, h => by
    obtain ⟨h1, h2⟩ := lg_cg (P := P) (Q := Q) (i := i) (fun j hj => h j (by omega))
    have e : lgN P (i + 1) = lgN Q (i + 1) := by
      rw [lgN, lgN, h1]
      exact kI_cg (h i (by omega)) (fun _ => rfl) (fun _ => rfl)
    refine ⟨e, ?_⟩
    rw [lgB, lgB, h2, e]
-- common times
noncomputable def fcF (f : Nat → Int) (q : Nat) (n k : Int) : Int := kls (fun x => 16 * k ≤ (x : Int) ∧ (x : Int) % 16 + n ≤ 16 ∧ 0 ≤ rmF f q ((x : Int) / 16) ((x : Int) % 16) n) 448
def usP (f : Nat → Int) (rm k t m d : Int) : Prop := ctF f (-1) (-1) m d k ∧ dF f m d 3 = rm ∧ btF f m d t 1 < 0
def usF (f : Nat → Int) (rm k t : Int) : Prop := ∃ m d : Int, inP f m d ∧ usP f rm k t m d
-- walks
def waP (f : Nat → Int) (p k t m d : Int) : Prop := exF f m p ∧ ctF f (-1) (-1) m d k ∧ dF f m d 1 = t
def hsP (f : Nat → Int) (p k t b : Int) : Prop := ∃ m d : Int, inP f m d ∧ waP f p k t m d ∧ f (9 + dF f m d 3).toNat = b
noncomputable def hsF (f : Nat → Int) (p k t : Int) : Int := kI (hsP f p k t 0) 0 (kI (hsP f p k t 1) 1 (-1))
noncomputable def wkS (b : Int) (x : Int × Int) : Int × Int := kI (b < 0) x (kI (0 ≤ x.2 ∧ x.2 ≠ b) (x.1 + 1) x.1, b)
noncomputable def wkF (H : Nat → Int) : Nat → Int × Int
  | 0 => (0, -1)
  | i + 1 => wkS (H i) (wkF H i)
theorem wkF_r (H : Nat → Int) (hH : ∀ i, H i = -1 ∨ H i = 0 ∨ H i = 1) : ∀ i : Nat, 0 ≤ (wkF H i).1 ∧ (wkF H i).1 ≤ (i : Int) ∧ -1 ≤ (wkF H i).2 ∧ (wkF H i).2 ≤ 1
  | 0 => by rw [wkF]; decide
  | i + 1 => by
    have h := wkF_r H hH i
    have h2 := hH i
    rw [wkF, wkS]
    by_cases c : H i < 0
    · rw [kI_t c]; omega
    · rw [kI_f c]
      by_cases c2 : 0 ≤ (wkF H i).2 ∧ (wkF H i).2 ≠ H i
      · rw [kI_t c2]; show 0 ≤ (wkF H i).1 + 1 ∧ _; omega
      · rw [kI_f c2]; show 0 ≤ (wkF H i).1 ∧ _; omega
def waI (f : Nat → Int) (p k t m d : Int) (x0 x : Int × Int) : Prop := (x = x0 ∧ alI f (waP f p k t) m d) ∨ ∃ m' d' : Int, lxP f m d m' d' ∧ waP f p k t m' d' ∧ x = wkS (f (9 + dF f m' d' 3).toNat) x0
theorem waI_0 {f : Nat → Int} {p k t : Int} {x : Int × Int} : waI f p k t 0 0 x x := Or.inl ⟨rfl, alI_0⟩
theorem waI_skip {f : Nat → Int} {p k t m d : Int} {x0 x : Int × Int} (h : waI f p k t m d x0 x) (hd : 0 ≤ d) (hx : ¬ waP f p k t m d) : waI f p k t m (d + 1) x0 x := by
  rcases h with ⟨h1, h2⟩ | ⟨m', d', h1, h2⟩
  · exact Or.inl ⟨h1, alI_s h2 hd hx⟩
  · exact Or.inr ⟨m', d', (lx_s hd).mpr (Or.inl h1), h2⟩
theorem waI_next {f : Nat → Int} {p k t m d : Int} {x0 x : Int × Int} (h : waI f p k t m d x0 x) (hm : 0 ≤ m) (hd : d = oF f m 3) : waI f p k t (m + 1) 0 x0 x := by
  rcases h with ⟨h1, h2⟩ | ⟨m', d', h1, h2⟩
  · exact Or.inl ⟨h1, alI_n h2 hm hd⟩
  · exact Or.inr ⟨m', d', (lx_n hm hd).mpr h1, h2⟩
theorem lx_in {f : Nat → Int} {m d m' d' : Int} (hm : 0 ≤ m ∧ m < f 1) (hd : d ≤ oF f m 3) (h : lxP f m d m' d') : inP f m' d' := by
  rcases h with ⟨h1, h2, h3, h4⟩ | ⟨h1, h2, h3⟩
  · exact ⟨h1, by omega, h3, h4⟩
  · subst h1; exact ⟨hm.1, hm.2, h2, by omega⟩
theorem waI_take {f : Nat → Int} (hW : kWf f) {p k t m d : Int} {x0 x : Int × Int} (hp : 0 ≤ p ∧ p < 6) (h : waI f p k t m d x0 x) (hi : inP f m d) (hx : waP f p k t m d) : waI f p k t m (d + 1) x0 (wkS (f (9 + dF f m d 3).toNat) x) := by
  rcases h with ⟨h1, h2⟩ | ⟨m', d', h1, h2, h3⟩
  · subst h1
    exact Or.inr ⟨m, d, (lx_s hi.2.2.1).mpr (Or.inr ⟨rfl, rfl⟩), hx, rfl⟩
  · have hi' := lx_in ⟨hi.1, hi.2.1⟩ (by have := hi.2.2.2; omega) h1
    have g1 := kWf_m hW hi.1 hi.2.1
    have g2 := kWf_m hW hi'.1 hi'.2.1
    have z1 := hx.2.2
    have z2 := h2.2.2
    obtain ⟨e1, e2⟩ := wf_one (t := t) hW hp hi hi' hx.2.1.1 h2.2.1.1 (hx.2.1.2.1.trans h2.2.1.2.1.symm) (by omega) (by omega) hx.1 h2.1
    subst e1; subst e2
    rcases h1 with h1 | h1 <;> omega
theorem wkS_eq {b n x : Int} (hb : 0 ≤ b) : wkS b (n, x) = (kI (0 ≤ x ∧ x ≠ b) (n + 1) n, b) := by
  unfold wkS
  rw [kI_f (by omega)]
theorem hsF_of {f : Nat → Int} (hW : kWf f) {p k t m d : Int} (hp : 0 ≤ p ∧ p < 6) (hi : inP f m d) (hx : waP f p k t m d) : hsF f p k t = f (9 + dF f m d 3).toNat := by
  have g1 := kWf_d hW hi.1 hi.2.1 hi.2.2.1 hi.2.2.2
  have g2 := kWf_room hW (r := dF f m d 3) (by omega) (by omega)
  have g3 := kWf_m hW hi.1 hi.2.1
  have u : ∀ b, hsP f p k t b → b = f (9 + dF f m d 3).toNat := by
    rintro b ⟨m', d', h1, h2, h3⟩
    have g4 := kWf_m hW h1.1 h1.2.1
    have z1 := hx.2.2
    have z2 := h2.2.2
    obtain ⟨e1, e2⟩ := wf_one (t := t) hW hp hi h1 hx.2.1.1 h2.2.1.1 (hx.2.1.2.1.trans h2.2.1.2.1.symm) (by omega) (by omega) hx.1 h2.1
    subst e1; subst e2
    exact h3.symm
  have v : hsP f p k t (f (9 + dF f m d 3).toNat) := ⟨m, d, hi, hx, rfl⟩
  unfold hsF
  by_cases c : f (9 + dF f m d 3).toNat = 0
  · rw [c] at v
    rw [kI_t v, c]
  · have c1 : f (9 + dF f m d 3).toNat = 1 := by omega
    rw [kI_f (fun z => c (u 0 z).symm)]
    rw [c1] at v
    rw [kI_t v, c1]
theorem hsF_none {f : Nat → Int} {p k t : Int} (h : ¬ ∃ m d : Int, inP f m d ∧ waP f p k t m d) : hsF f p k t = -1 := by
  unfold hsF
  rw [kI_f (fun ⟨m, d, h1, h2, _⟩ => h ⟨m, d, h1, h2⟩), kI_f (fun ⟨m, d, h1, h2, _⟩ => h ⟨m, d, h1, h2⟩)]
theorem hsF_r (f : Nat → Int) (p k t : Int) : hsF f p k t = -1 ∨ hsF f p k t = 0 ∨ hsF f p k t = 1 := by
  unfold hsF
  by_cases c : hsP f p k t 0
  · rw [kI_t c]; omega
  · rw [kI_f c]
    by_cases c : hsP f p k t 1
    · rw [kI_t c]; omega
    · rw [kI_f c]; omega
theorem waI_end {f : Nat → Int} (hW : kWf f) {p k t m : Int} {x0 x : Int × Int} (hp : 0 ≤ p ∧ p < 6) (h : waI f p k t m 0 x0 x) (hm : m = f 1) : x = wkS (hsF f p k t) x0 := by
  rcases h with ⟨h1, h2⟩ | ⟨m', d', h1, h2, h3⟩
  · rw [hsF_none (alI_ex h2 hm), h1]
    unfold wkS
    rw [kI_t (by decide)]
  · rw [hsF_of hW hp ((lx_e hm).mp h1) h2, h3]
-- sums
noncomputable def stF (f : Nat → Int) : Int := ksm (fun m => ksm (fun d => kI (onF f (m : Int) (d : Int)) (oF f (m : Int) 2 * kpo (ppF f (m : Int)) 6) 0) (oF f (m : Int) 3).toNat) (f 1).toNat
noncomputable def mxF (f : Nat → Int) : Int := ksm (fun m => kpo (ppF f (m : Int)) 6) (f 1).toNat
noncomputable def ysF (f : Nat → Int) : Int := ksm (fun m => ksm (fun p => kB (oF f (m : Int) (4 + (p : Int)) = 121)) 6) (f 1).toNat
noncomputable def alF (f : Nat → Int) : Int := ksm (fun m => ksm (fun p => kB (oF f (m : Int) (4 + (p : Int)) = 121 ∨ oF f (m : Int) (4 + (p : Int)) = 110)) 6) (f 1).toNat
-- dates standing
noncomputable def sdF (f : Nat → Int) (m : Int) : Int := ksm (fun d => kB (onF f m (d : Int))) (oF f m 3).toNat
-- who may not come back
noncomputable def ko3 (f : Nat → Int) (m : Int) : Int := kls (fun d => onF f m (d : Int) ∧ f (5 + dF f m (d : Int) 3).toNat ≤ kpo (ppF f m) 6) (oF f m 3).toNat
noncomputable def ko4 (f : Nat → Int) (m p : Int) : Int := kls (fun d => onF f m (d : Int) ∧ clF f m (d : Int) p) (oF f m 3).toNat
-- rows after calls
noncomputable def anF (f : Nat → Int) (m host : Int) (q : Nat) : Nat → (Nat → Int)
  | 0 => f
  | i + 1 => lyF (anF f m host q i) m (4 + (i : Int)) (kI ((i : Int) ≠ host ∧ q.testBit i = true) 111 45)
noncomputable def askF (f : Nat → Int) (host : Int) (q : Nat) (k t n rm : Int) : Nat → Int :=
  let f4 := anF (lyF (lyF (lyF (lyF f (f 1) 0 (f 2)) (f 1) 1 host) (f 1) 2 n) (f 1) 3 1) (f 1) host q 6
  let f5 := dtF f4 (f 1) 0 k t rm
  let f6 := kiu f5 1 (f5 1 + 1)
  kiu f6 2 (f6 2 + 1)
def shF (f : Nat → Int) (a : Nat) : Nat → (Nat → Int)
  | 0 => f
  | i + 1 => kiu (shF f a i) (a + i) (shF f a i (a + i + 40))
def rvF (f : Nat → Int) (m : Int) : Nat → Int := shF (kiu f 1 (f 1 - 1)) (20 + 40 * m).toNat (40 * (f 1 - 1 - m)).toNat
noncomputable def exS (f : Nat → Int) (m k n j : Int) : Int := smlF f (-1) (-1) (ppF f m) (dF f m (oF f m 3 - 1) 0 + k * j) (dF f m (oF f m 3 - 1) 1) (oF f m 2)
noncomputable def exB (f : Nat → Int) (m k j : Int) : Int := bsyF f (-1) (-1) (ppF f m) (dF f m (oF f m 3 - 1) 0 + k * j) (dF f m (oF f m 3 - 1) 1) (oF f m 2)
def usI (f : Nat → Int) (rm k t m d : Int) (b : Nat) : Prop := (b = 0 ∧ alI f (usP f rm k t) m d) ∨ (b = 1 ∧ ∃ m' d' : Int, lxP f m d m' d' ∧ usP f rm k t m' d')
theorem usI_0 {f : Nat → Int} {rm k t : Int} : usI f rm k t 0 0 0 := Or.inl ⟨rfl, alI_0⟩
theorem usI_skip {f : Nat → Int} {rm k t m d : Int} {b : Nat} (h : usI f rm k t m d b) (hd : 0 ≤ d) (hx : ¬ usP f rm k t m d) : usI f rm k t m (d + 1) (b ||| 0) := by
  rw [Nat.or_zero]
  rcases h with ⟨h1, h2⟩ | ⟨h0, m', d', h1, h2⟩
  · exact Or.inl ⟨h1, alI_s h2 hd hx⟩
  · exact Or.inr ⟨h0, m', d', (lx_s hd).mpr (Or.inl h1), h2⟩
theorem usI_take {f : Nat → Int} {rm k t m d : Int} {b : Nat} (h : usI f rm k t m d b) (hd : 0 ≤ d) (hx : usP f rm k t m d) : usI f rm k t m (d + 1) (b ||| 1) := by
  refine Or.inr ⟨?_, m, d, (lx_s hd).mpr (Or.inr ⟨rfl, rfl⟩), hx⟩
  rcases h with ⟨h1, -⟩ | ⟨h1, -⟩ <;> subst h1 <;> rfl
theorem usI_next {f : Nat → Int} {rm k t m d : Int} {b : Nat} (h : usI f rm k t m d b) (hm : 0 ≤ m) (hd : d = oF f m 3) : usI f rm k t (m + 1) 0 b := by
  rcases h with ⟨h1, h2⟩ | ⟨h0, m', d', h1, h2⟩
  · exact Or.inl ⟨h1, alI_n h2 hm hd⟩
  · exact Or.inr ⟨h0, m', d', (lx_n hm hd).mpr h1, h2⟩
theorem usI_end {f : Nat → Int} {rm k t m : Int} {b : Nat} (h : usI f rm k t m 0 b) (hm : m = f 1) : (b = 0 ∧ ¬ usF f rm k t) ∨ (b = 1 ∧ usF f rm k t) := by
  rcases h with ⟨h1, h2⟩ | ⟨h0, m', d', h1, h2⟩
  · exact Or.inl ⟨h1, alI_ex h2 hm⟩
  · exact Or.inr ⟨h0, m', d', (lx_e hm).mp h1, h2⟩
theorem usI_r {f : Nat → Int} {rm k t m d : Int} {b : Nat} (h : usI f rm k t m d b) : b ≤ 1 := by
  rcases h with ⟨h1, -⟩ | ⟨h1, -⟩ <;> omega
theorem bsyF_r (f : Nat → Int) (wm wd : Int) (q : Nat) (k t n : Int) : -1 ≤ bsyF f wm wd q k t n ∧ bsyF f wm wd q k t n < 6 := by
  unfold bsyF
  rcases kls_spec (fun p => q.testBit p = true ∧ bsP f wm wd k t n (p : Int)) 6 with ⟨h1, -⟩ | ⟨i, h1, h2, -⟩ <;> rw [h1] <;> omega
theorem smlF_r (f : Nat → Int) (wm wd : Int) (q : Nat) (k t n : Int) : -1 ≤ smlF f wm wd q k t n ∧ smlF f wm wd q k t n < 4 := by
  have := sml_r f (fun rm => fitF f wm wd rm q k t n) 4
  unfold smlF
  omega
theorem rmF_r (f : Nat → Int) (q : Nat) (k t n : Int) : -1 ≤ rmF f q k t n ∧ rmF f q k t n < 4 := by
  have := smlF_r f (-1) (-1) q k t n
  unfold rmF
  by_cases c : 0 ≤ bsyF f (-1) (-1) q k t n
  · rw [kI_t c]; omega
  · rw [kI_f c]; omega
