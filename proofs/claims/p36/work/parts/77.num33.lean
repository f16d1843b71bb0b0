-- how many bits of a long number: the sum
def bcL (o : Nat) : Nat := bcN (o % 256) + bcN (o / 256 % 256) + bcN (o / 256 / 256 % 256) + bcN (o / 256 / 256 / 256 % 256) + bcN (o / 256 / 256 / 256 / 256 % 256) + bcN (o / 256 / 256 / 256 / 256 / 256 % 256) + bcN (o / 256 / 256 / 256 / 256 / 256 / 256 % 256) + bcN (o / 256 / 256 / 256 / 256 / 256 / 256 / 256 % 256)
theorem r85 : (6148914691236517205 : Nat) = rep8 85 8 := by decide
theorem r51 : (3689348814741910323 : Nat) = rep8 51 8 := by decide
theorem r15 : (1085102592571150095 : Nat) = rep8 15 8 := by decide
theorem p1_e (o : Nat) : o - (o / 2 ^ 1 &&& 6148914691236517205) = p1 (rep8 85 8) o := by rw [r85]; rfl
theorem p2_e (o : Nat) : (p1 (rep8 85 8) o &&& 3689348814741910323) + (p1 (rep8 85 8) o / 2 ^ 2 &&& 3689348814741910323) = P12 8 o := by rw [r51]; rfl
theorem p3_e (o : Nat) : P12 8 o + P12 8 o / 2 ^ 4 &&& 1085102592571150095 = G8 8 o := by rw [r15]; rfl
theorem p1_lt {o : Nat} (h : o < 2 ^ 64) : p1 (rep8 85 8) o < 2 ^ 64 := Nat.lt_of_le_of_lt (Nat.sub_le _ _) h
theorem p2_lt (o : Nat) : P12 8 o ≤ 7378697629483820646 := by
  rw [← p2_e]
  have h1 : (p1 (rep8 85 8) o &&& 3689348814741910323) ≤ 3689348814741910323 := Nat.and_le_right
  have h2 : (p1 (rep8 85 8) o / 2 ^ 2 &&& 3689348814741910323) ≤ 3689348814741910323 := Nat.and_le_right
  omega
theorem dv {x v u d : Nat} (h : x = v + d * u) (hv : v < d) : x / d = u := by
  subst h
  rw [Nat.add_mul_div_left _ _ (by omega), Nat.div_eq_of_lt hv, Nat.zero_add]
theorem sum8 {a b c d e f g h : Nat} (ha : a ≤ 8) (hb : b ≤ 8) (hc : c ≤ 8) (hd : d ≤ 8) (he : e ≤ 8) (hf : f ≤ 8) (hg : g ≤ 8) (hh : h ≤ 8) {x1 x2 x3 x4 : Nat} (e1 : x1 = a + 256 * (b + 256 * (c + 256 * (d + 256 * (e + 256 * (f + 256 * (g + 256 * h))))))) (e2 : x2 = x1 + x1 / 256) (e3 : x3 = x2 + x2 / 65536) (e4 : x4 = x3 + x3 / 4294967296) : x4 % 128 = a + b + c + d + e + f + g + h := by
  have a2 := dv e1 (by omega)
  rw [a2] at e2
  have f2 : x2 = ((a + b) + 256 * (b + c)) + 65536 * ((c + d) + 256 * ((d + e) + 256 * ((e + f) + 256 * ((f + g) + 256 * ((g + h) + 256 * h))))) := by rw [e2, e1]; clear e1 e2 e3 e4 a2 ha hb hc hd he hf hg hh; omega
  have a3 := dv f2 (by clear e1 e2 e3 e4 a2 f2; omega)
  rw [a3] at e3
  have f3 : x3 = ((a + b + c + d) + 256 * (b + c + d + e) + 65536 * (c + d + e + f) + 16777216 * (d + e + f + g)) + 4294967296 * ((e + f + g + h) + 256 * ((f + g + h) + 256 * ((g + h) + 256 * h))) := by rw [e3, f2]; clear e1 e2 e3 e4 a2 a3 f2 ha hb hc hd he hf hg hh; omega
  have a4 := dv f3 (by clear e1 e2 e3 e4 a2 a3 f2 f3; omega)
  rw [a4] at e4
  have f4 : x4 = (a + b + c + d + e + f + g + h) + 128 * (2 * (b + c + d + e + f + g + h) + 512 * (c + d + e + f + g + h) + 131072 * (d + e + f + g + h) + 33554432 * ((e + f + g + h) + 256 * ((f + g + h) + 256 * ((g + h) + 256 * h)))) := by rw [e4, f3]; clear e1 e2 e3 e4 a2 a3 a4 f2 f3 ha hb hc hd he hf hg hh; omega
  rw [f4, Nat.add_mul_mod_self_left]
  exact Nat.mod_eq_of_lt (by clear e1 e2 e3 e4 a2 a3 a4 f2 f3 f4; omega)
theorem G8_e (o : Nat) : G8 8 o = bcN (o % 256) + 256 * (bcN (o / 256 % 256) + 256 * (bcN (o / 256 / 256 % 256) + 256 * (bcN (o / 256 / 256 / 256 % 256) + 256 * (bcN (o / 256 / 256 / 256 / 256 % 256) + 256 * (bcN (o / 256 / 256 / 256 / 256 / 256 % 256) + 256 * (bcN (o / 256 / 256 / 256 / 256 / 256 / 256 % 256) + 256 * bcN (o / 256 / 256 / 256 / 256 / 256 / 256 / 256 % 256))))))) := by
  rw [G8_s, G8_s, G8_s, G8_s, G8_s, G8_s, G8_s, G8_s, G8_0, Nat.mul_zero, Nat.add_zero]
theorem bcL_e (o : Nat) : (G8 8 o + G8 8 o / 2 ^ 8 + (G8 8 o + G8 8 o / 2 ^ 8) / 2 ^ 16 + (G8 8 o + G8 8 o / 2 ^ 8 + (G8 8 o + G8 8 o / 2 ^ 8) / 2 ^ 16) / 2 ^ 32) &&& 127 = bcL o := by
  rw [show (127 : Nat) = 2 ^ 7 - 1 from rfl, Nat.and_two_pow_sub_one_eq_mod, show (2 : Nat) ^ 7 = 128 from rfl, show (2 : Nat) ^ 8 = 256 from rfl, show (2 : Nat) ^ 16 = 65536 from rfl, show (2 : Nat) ^ 32 = 4294967296 from rfl]
  have h := G8_e o
  unfold bcL
  generalize G8 8 o = x1 at h
  generalize hx2 : x1 + x1 / 256 = x2
  generalize hx3 : x2 + x2 / 65536 = x3
  generalize hx4 : x3 + x3 / 4294967296 = x4
  exact sum8 (bcN_le _) (bcN_le _) (bcN_le _) (bcN_le _) (bcN_le _) (bcN_le _) (bcN_le _) (bcN_le _) h hx2.symm hx3.symm hx4.symm
theorem p3_lt (o : Nat) : G8 8 o ≤ 1085102592571150095 := by
  rw [← p3_e]
  exact Nat.and_le_right

