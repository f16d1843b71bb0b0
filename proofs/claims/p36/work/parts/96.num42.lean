-- the reference's counts
def cnF (f : Nat → Bool) : Nat → Nat
  | 0 => 0
  | j + 1 => cnF f j + (if f j = true then 1 else 0)
theorem cnF_t {f : Nat → Bool} {j : Nat} (h : f j = true) : cnF f j + 1 = cnF f (j + 1) := by rw [cnF, if_pos h]
theorem cnF_f {f : Nat → Bool} {j : Nat} (h : ¬ f j = true) : cnF f j + 0 = cnF f (j + 1) := by rw [cnF, if_neg h]
theorem cnF_le (f : Nat → Bool) : ∀ m, cnF f m ≤ m
  | 0 => Nat.le_refl _
  | m + 1 => by have := cnF_le f m; rw [cnF]; split <;> omega
theorem cnF_congr {f g : Nat → Bool} : ∀ {m : Nat}, (∀ j, j < m → f j = g j) → cnF f m = cnF g m
  | 0, _ => rfl
  | m + 1, h => by rw [cnF, cnF, cnF_congr (fun j hj => h j (by omega)), h m (by omega)]
theorem cnF_add (f : Nat → Bool) (a : Nat) : ∀ b, cnF f (a + b) = cnF f a + cnF (fun j => f (a + j)) b
  | 0 => rfl
  | b + 1 => by
    show cnF f (a + b + 1) = _
    rw [cnF, cnF_add f a b, cnF, Nat.add_assoc]
theorem cnF_z {f : Nat → Bool} : ∀ {m : Nat}, (∀ j, j < m → f j = false) → cnF f m = 0
  | 0, _ => rfl
  | m + 1, h => by rw [cnF, cnF_z (fun j hj => h j (by omega)), h m (by omega)]; rfl
theorem cnF_out {f : Nat → Bool} {n m : Nat} (hn : n ≤ m) (h : ∀ j, n ≤ j → j < m → f j = false) : cnF f m = cnF f n := by
  obtain ⟨d, rfl⟩ : ∃ d, m = n + d := ⟨m - n, by omega⟩
  rw [cnF_add, cnF_z (fun j hj => h (n + j) (by omega) (by omega))]; rfl
theorem bcF_cn (x : Nat) : ∀ m, bcF x m = cnF (fun j => x.testBit j) m
  | 0 => rfl
  | m + 1 => by rw [bcF, cnF, bcF_cn x m]
theorem bcN_cn (x : Nat) : bcN x = cnF (fun j => x.testBit j) 8 := bcF_cn x 8
theorem chunk_cn (o i : Nat) : bcN (o / 2 ^ (8 * i) % 256) = cnF (fun j => o.testBit (8 * i + j)) 8 := by
  rw [bcN_cn]
  apply cnF_congr
  intro j hj
  rw [show (256 : Nat) = 2 ^ 8 from rfl, Nat.testBit_mod_two_pow, Nat.testBit_div_two_pow, Nat.add_comm j]
  simp [hj]
theorem abo_cn {n o i : Nat} (h8 : n ≤ 8) (ho : OB n o) : cnF (fun j => o.testBit (8 * i + j)) n = bcN (o / 2 ^ (8 * i) % 256) := by
  rw [chunk_cn]
  refine (cnF_out h8 (fun j h1 h2 => ?_)).symm
  cases q : o.testBit (8 * i + j) with
  | false => rfl
  | true => have := (ho.2 _ q).2; omega
theorem bel_cn {n o i : Nat} (h8 : n ≤ 8) : cnF (fun j => o.testBit (8 * j + i)) n = bcN (tab n o i) := by
  rw [bcN_cn]
  have e : cnF (fun j => (tab n o i).testBit j) 8 = cnF (fun j => (tab n o i).testBit j) n := cnF_out h8 (fun j h1 _ => by
    unfold tab
    rw [mk_tb]
    have : ¬ j < n := by omega
    simp [this])
  rw [e]
  apply cnF_congr
  intro j hj
  unfold tab
  rw [mk_tb]
  simp [hj]
theorem d256 (o : Nat) : ∀ i, o / 2 ^ (8 * (i + 1)) = o / 2 ^ (8 * i) / 256 := fun i => by
  rw [show 8 * (i + 1) = 8 * i + 8 by omega, Nat.pow_add, ← Nat.div_div_eq_div_mul]
theorem bcL_cn (o : Nat) : bcL o = cnF (fun j => o.testBit j) 64 := by
  have e0 : o % 256 = o / 2 ^ (8 * 0) % 256 := by simp
  have e1 : o / 256 = o / 2 ^ (8 * 1) := by rw [d256 o 0, Nat.mul_zero, Nat.pow_zero, Nat.div_one]
  have e2 := d256 o 1
  have e3 := d256 o 2
  have e4 := d256 o 3
  have e5 := d256 o 4
  have e6 := d256 o 5
  have e7 := d256 o 6
  unfold bcL
  rw [e1, ← e2, ← e3, ← e4, ← e5, ← e6, ← e7, e0]
  rw [chunk_cn, chunk_cn, chunk_cn, chunk_cn, chunk_cn, chunk_cn, chunk_cn, chunk_cn]
  rw [show (64 : Nat) = 56 + 8 from rfl, cnF_add, show (56 : Nat) = 48 + 8 from rfl, cnF_add, show (48 : Nat) = 40 + 8 from rfl, cnF_add, show (40 : Nat) = 32 + 8 from rfl, cnF_add, show (32 : Nat) = 24 + 8 from rfl, cnF_add, show (24 : Nat) = 16 + 8 from rfl, cnF_add, show (16 : Nat) = 8 + 8 from rfl, cnF_add]
  have ez : cnF (fun j => o.testBit (8 * 0 + j)) 8 = cnF (fun j => o.testBit j) 8 := cnF_congr (fun j _ => by rw [Nat.mul_zero, Nat.zero_add])
  rw [ez]
theorem bcN_64 {x : Nat} (h : x < 256) : cnF (fun j => x.testBit j) 64 = bcN x := by
  rw [bcN_cn]
  refine cnF_out (by omega) (fun j h1 _ => ?_)
  exact Nat.testBit_lt_two_pow (Nat.lt_of_lt_of_le h (Nat.pow_le_pow_right (n := 2) (i := 8) (by omega) h1))
theorem sar1i {v k : Nat} (hk : k < 64) : (lN v >>> ((nI k).toInt64 &&& 63)).toInt32 &&& nI 1 = nI (v / 2 ^ k % 2) := by
  apply Int32.toBitVec_inj.mp
  apply BitVec.eq_of_getLsbD_eq
  intro i hi
  rw [Int32.toBitVec_and, BitVec.getLsbD_and]
  have e0 : (nI 1).toBitVec.getLsbD i = decide (i < 1) := by
    revert i; decide +kernel
  have e2 : (nI (v / 2 ^ k % 2)).toBitVec.getLsbD i = (decide (i < 1) && v.testBit (k + i)) := by
    show (BitVec.ofNat 32 _).getLsbD i = _
    rw [BitVec.getLsbD_ofNat, show (2 : Nat) = 2 ^ 1 from rfl, Nat.testBit_mod_two_pow, Nat.testBit_div_two_pow, Nat.add_comm i k]
    simp [hi]
  rw [e0, e2]
  by_cases h8 : i < 1
  · have e1 : ((lN v >>> ((nI k).toInt64 &&& 63)).toInt32).toBitVec.getLsbD i = (lN v >>> ((nI k).toInt64 &&& 63)).toBitVec.getLsbD i := by
      show (BitVec.signExtend 32 _).getLsbD i = _
      rw [BitVec.getLsbD_signExtend]
      have h1 : i < 64 := by omega
      simp [hi, h1]
    rw [e1, sarT (by omega) (by omega)]
    simp [h8]
  · simp [h8]
theorem cnF_d (v j : Nat) : cnF (fun j => v.testBit j) j + v / 2 ^ j % 2 = cnF (fun j => v.testBit j) (j + 1) := by
  rw [cnF]
  by_cases h : v.testBit j = true
  · rw [if_pos h, (tb_div v j).mpr h]
  · rw [if_neg h, (tb_div0 v j).mpr (bF h)]
theorem bcN_0 : ∀ x, x < 256 → (bcN x = 0 ↔ x = 0) := by decide +kernel
theorem and1_le {P : Prop} {z : Nat} (h : (z = 1 ∧ P) ∨ (z = 0 ∧ ¬ P)) : z ≤ 1 := by rcases h with q | q <;> omega
theorem and1_y {P Q : Prop} {z : Nat} (h : (z = 1 ∧ P) ∨ (z = 0 ∧ ¬ P)) (hz : ¬ z = 0) (hq : P → Q) : (1 = 1 ∧ Q) ∨ (1 = 0 ∧ ¬ Q) := by
  rcases h with q | q
  · exact Or.inl ⟨rfl, hq q.2⟩
  · exact absurd q.1 hz
theorem and1_n {Q : Prop} (hq : ¬ Q) : (0 = 1 ∧ Q) ∨ (0 = 0 ∧ ¬ Q) := Or.inr ⟨rfl, hq⟩
theorem and1_p {P : Prop} {z : Nat} (h : (z = 1 ∧ P) ∨ (z = 0 ∧ ¬ P)) (hz : ¬ z = 0) : P := by
  rcases h with q | q
  · exact q.2
  · exact absurd q.1 hz
theorem and1_q {P : Prop} {z : Nat} (h : (z = 1 ∧ P) ∨ (z = 0 ∧ ¬ P)) (hz : z = 0) : ¬ P := by
  rcases h with q | q
  · omega
  · exact q.2

