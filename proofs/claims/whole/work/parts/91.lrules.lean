/-! ===== the law: reading the script; comparing longs ===== -/
def kScB (G : kG) : Nat := G.2.1 7
def kScL (G : kG) : Nat := G.2.1 8
section KSC
variable {l : Launch} {G : kG} {y : kMR} {d : Nat} {Φ : Option Value → kAH → Prop} {Ψ : String → kAH → Prop} {k n pc pc1 : Nat} {L : List (Option Value)} {st : List Value} {h : kAH}
theorem k_sld {i : Int} {b : Nat} (hd : decode y.2.1 pc = .ok (.iaload, 1)) (hp : pc + 1 = pc1) (hb9 : b = kScB G) (hi : 0 ≤ i) (hi2 : i < ((kScL G : Nat) : Int)) (hN : kScL G ≤ 1000000)
    (kk : kW l G y d Φ Ψ k n pc1 L (.int (iI (kScF G i.toNat)) :: st) h) : kW l G y d Φ Ψ k n pc L (.int (iI i) :: .ref b :: st) h := by
  subst hp
  subst hb9
  intro p e R s m args below meth c H locs cells slots ls F h1 h2 h3 h4 h5
  obtain ⟨hx, hb, hml, hr9, hlocks, hnm, hown, htab, hts, hE, -⟩ := id F
  have hs := hE.2.2.2.2.2.2.2.2.2.2.2.2.2.2.2
  refine va_sld hx hb hs.1 (kScr_lt hs) hs.2 h4 (iI_in hi hi2 (by omega)) hd ?_
  rw [iI_cl hi (by omega)]
  exact kk p e R s m args below meth c H locs cells slots ls F h1 h2 h3 h4 h5
theorem k_slen {b : Nat} (hd : decode y.2.1 pc = .ok (.arraylength, 1)) (hp : pc + 1 = pc1) (hb9 : b = kScB G)
    (kk : kW l G y d Φ Ψ k n pc1 L (.int (iI ((kScL G : Nat) : Int)) :: st) h) : kW l G y d Φ Ψ k n pc L (.ref b :: st) h := by
  subst hp
  subst hb9
  intro p e R s m args below meth c H locs cells slots ls F h1 h2 h3 h4 h5
  obtain ⟨hx, hb, hml, hr9, hlocks, hnm, hown, htab, hts, hE, -⟩ := id F
  have hs := hE.2.2.2.2.2.2.2.2.2.2.2.2.2.2.2
  exact va_slen hx hb hs.1 (kScr_lt hs) hs.2 h4 hd (kk p e R s m args below meth c H locs cells slots ls F h1 h2 h3 h4 h5)
theorem k_lcmpE {x z : Int64} (hd : decode y.2.1 pc = .ok (.lcmp, 1)) (hp : pc + 1 = pc1) (e : x = z) (kk : kW l G y d Φ Ψ k n pc1 L (.int (iI 0) :: st) h) : kW l G y d Φ Ψ k n pc L (.long z :: .long x :: st) h := by
  subst hp
  subst e
  refine k_pure ?_ kk
  intro p e R s m args below meth c H locs cells slots Q ls hx hb hl kk
  refine W.lcmp hx hb hd ?_
  have hz : lg_cmp x x = iI 0 := by
    unfold lg_cmp
    rw [if_neg (Int64.lt_irrefl), if_pos rfl]
    rfl
  rw [hz]
  exact kk ls hl
end KSC
-- a char out of an int
theorem i2c_ex (a : Int32) : ∃ z : Int, 0 ≤ z ∧ z < 65536 ∧ (a.toUInt32 % 65536).toInt32 = iI z := by
  refine ⟨(a.toUInt32 % 65536).toNat, by omega, ?_, ?_⟩
  · have : (a.toUInt32 % 65536).toNat = a.toUInt32.toNat % 65536 := UInt32.toNat_mod _ _
    rw [this]
    omega
  · apply Int32.toBitVec_inj.mp
    show (a.toUInt32 % 65536).toBitVec = BitVec.ofInt 32 ((a.toUInt32 % 65536).toNat : Int)
    rw [BitVec.ofInt_natCast]
    apply BitVec.eq_of_toNat_eq
    rw [BitVec.toNat_ofNat, Nat.mod_eq_of_lt (UInt32.toNat_lt _)]
    rfl
