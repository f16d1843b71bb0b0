-- the search: numbers
theorem hom_ex : ∃ f : Int64 → Int64 → Nat, ∀ ky ov, f ky ov = (((ky * -7046029254386353131 ^^^ ov) * -4417276706812531889).toUInt64 >>> 52).toNat := ⟨_, fun _ _ => rfl⟩
noncomputable def hom : Int64 → Int64 → Nat := Classical.choose hom_ex
theorem hom_d (ky ov : Int64) : hom ky ov = (((ky * -7046029254386353131 ^^^ ov) * -4417276706812531889).toUInt64 >>> 52).toNat := Classical.choose_spec hom_ex ky ov
theorem shr52 (u : UInt64) : (u >>> 52).toNat < 4096 := by
  rw [UInt64.toNat_shiftRight]
  have h := UInt64.toNat_lt u
  rw [show (UInt64.toNat 52 % 64) = 52 from rfl, Nat.shiftRight_eq_div_pow]
  omega
theorem hom_lt (ky ov : Int64) : hom ky ov < 4096 := by
  rw [hom_d]
  exact shr52 _
theorem u64_lN (u : UInt64) : u.toInt64 = lN u.toNat := by
  apply Int64.toBitVec_inj.mp
  show u.toBitVec = BitVec.ofNat 64 u.toBitVec.toNat
  rw [BitVec.ofNat_toNat, BitVec.setWidth_eq]
theorem hom_c : (nI 52).toInt64.toUInt64 &&& Int64.toUInt64 63 = 52 := by decide +kernel
theorem hom_e (x : Int64) : ((x.toUInt64 >>> ((nI 52).toInt64.toUInt64 &&& Int64.toUInt64 63)).toInt64).toInt32 = nI ((x.toUInt64 >>> 52).toNat) := by
  rw [hom_c, u64_lN, lN_i]
theorem sl_nx {h d : Nat} : (h + d) % 4096 + 1 &&& 4095 = (h + (d + 1)) % 4096 := by
  rw [show (4095 : Nat) = 2 ^ 12 - 1 from rfl, Nat.and_two_pow_sub_one_eq_mod]
  omega
/-- where the probing stops -/
def stP (SL : Nat → Nat) (KY OV : Nat → Int64) (h : Nat) (ky ov : Int64) (d : Nat) : Bool := decide (SL ((h + d) % 4096) = 0) || (decide (KY (SL ((h + d) % 4096) - 1) = ky) && decide (OV (SL ((h + d) % 4096) - 1) = ov))
noncomputable def sld (SL : Nat → Nat) (KY OV : Nat → Int64) (ky ov : Int64) : Nat := fs (stP SL KY OV (hom ky ov) ky ov) 4096
noncomputable def slt (SL : Nat → Nat) (KY OV : Nat → Int64) (ky ov : Int64) : Nat := (hom ky ov + sld SL KY OV ky ov) % 4096
theorem stP_0 {SL : Nat → Nat} {KY OV : Nat → Int64} {h d : Nat} {ky ov : Int64} (q : SL ((h + d) % 4096) = 0) : stP SL KY OV h ky ov d = true := by
  unfold stP; rw [decide_eq_true q]; rfl
theorem stP_t {SL : Nat → Nat} {KY OV : Nat → Int64} {h d : Nat} {ky ov : Int64} (q1 : KY (SL ((h + d) % 4096) - 1) = ky) (q2 : OV (SL ((h + d) % 4096) - 1) = ov) : stP SL KY OV h ky ov d = true := by
  unfold stP; rw [decide_eq_true q1, decide_eq_true q2]; cases decide (SL ((h + d) % 4096) = 0) <;> rfl
theorem stP_f {SL : Nat → Nat} {KY OV : Nat → Int64} {h d : Nat} {ky ov : Int64} (q : SL ((h + d) % 4096) ≠ 0) (q1 : KY (SL ((h + d) % 4096) - 1) ≠ ky ∨ OV (SL ((h + d) % 4096) - 1) ≠ ov) : stP SL KY OV h ky ov d = false := by
  unfold stP; rw [decide_eq_false q]
  rcases q1 with q1 | q1
  · rw [decide_eq_false q1]; rfl
  · rw [decide_eq_false q1]; cases decide (KY (SL ((h + d) % 4096) - 1) = ky) <;> rfl
theorem hom_k (ky ov : Int64) : ((((ky * -7046029254386353131 ^^^ ov) * -4417276706812531889).toUInt64 >>> ((nI 52).toInt64.toUInt64 &&& Int64.toUInt64 63)).toInt64).toInt32 = nI (hom ky ov) := by
  rw [hom_d]
  exact hom_e _
theorem slt_at {SL : Nat → Nat} {KY OV : Nat → Int64} {ky ov : Int64} {d : Nat} (h : ∀ j, j < d → stP SL KY OV (hom ky ov) ky ov j = false) (h2 : stP SL KY OV (hom ky ov) ky ov d = true) (hd : d < 4096) : slt SL KY OV ky ov = (hom ky ov + d) % 4096 := by
  unfold slt sld
  rw [fs_yes h h2 hd]
theorem slt_no {SL : Nat → Nat} {KY OV : Nat → Int64} {ky ov : Int64} {d : Nat} (h : ∀ j, j < d → stP SL KY OV (hom ky ov) ky ov j = false) (hd : d = 4096) : slt SL KY OV ky ov = (hom ky ov + d) % 4096 := by
  subst hd
  unfold slt sld
  rw [fs_no h]
theorem slt_lt {SL : Nat → Nat} {KY OV : Nat → Int64} {ky ov : Int64} : slt SL KY OV ky ov < 4096 := Nat.mod_lt _ (by decide)
theorem hom_k0 (ky ov : Int64) : ((((ky * -7046029254386353131 ^^^ ov) * -4417276706812531889).toUInt64 >>> ((nI 52).toInt64.toUInt64 &&& Int64.toUInt64 63)).toInt64).toInt32 = nI ((hom ky ov + 0) % 4096) := by
  rw [Nat.add_zero, Nat.mod_eq_of_lt (hom_lt ky ov)]
  exact hom_k ky ov
theorem hom_m0 (x : Nat) : (x % 4096) &&& 4095 = x % 4096 := by
  rw [show (4095 : Nat) = 2 ^ 12 - 1 from rfl, Nat.and_two_pow_sub_one_eq_mod]
  exact Nat.mod_mod x 4096

