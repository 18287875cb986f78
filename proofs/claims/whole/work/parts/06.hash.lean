def hc_mix (x : Nat) : Nat :=
  let a := ((x ^^^ (x / 65536)) * 2246822507) % 4294967296
  let b := ((a ^^^ (a / 8192)) * 3266489909) % 4294967296
  b ^^^ (b / 65536)
def hc_one : Nat → Nat → Bool
  | 0, _ => false
  | f + 1, x => if hc_mix x < 2147483648 then true else hc_one f ((x + 1013904242) % 4294967296)
def hc_all (lo : Nat) : Nat → Bool
  | 0 => true
  | n + 1 => hc_one 41 (lo + n) && hc_all lo n
theorem hc_one_ok : ∀ (f y : Nat), hc_one f (y % 4294967296) = true → ∃ k, k < f ∧ hc_mix ((y + k * 1013904242) % 4294967296) < 2147483648 := by
  intro f
  induction f with
  | zero => intro y h; simp [hc_one] at h
  | succ f ih =>
    intro y h
    unfold hc_one at h
    by_cases hm : hc_mix (y % 4294967296) < 2147483648
    · exact ⟨0, by omega, by simpa using hm⟩
    · rw [if_neg hm] at h
      have e : (y % 4294967296 + 1013904242) % 4294967296 = (y + 1013904242) % 4294967296 := by omega
      rw [e] at h
      obtain ⟨k, hk, hq⟩ := ih (y + 1013904242) h
      refine ⟨k + 1, by omega, ?_⟩
      have e2 : y + (k + 1) * 1013904242 = y + 1013904242 + k * 1013904242 := by omega
      rw [e2]; exact hq
theorem hc_all_ok (lo : Nat) : ∀ n, hc_all lo n = true → ∀ j, j < n → hc_one 41 (lo + j) = true := by
  intro n
  induction n with
  | zero => intro _ j hj; omega
  | succ n ih =>
    intro h j hj
    unfold hc_all at h
    rw [Bool.and_eq_true] at h
    rcases Nat.lt_or_ge j n with q | q
    · exact ih h.2 j q
    · have : j = n := by omega
      subst this; exact h.1

set_option maxRecDepth 100000 in
theorem hc_b0 : hc_all 0 1000 = true := by decide +kernel

set_option maxRecDepth 100000 in
theorem hc_b1 : hc_all 1000 1000 = true := by decide +kernel

set_option maxRecDepth 100000 in
theorem hc_b2 : hc_all 2000 1000 = true := by decide +kernel

set_option maxRecDepth 100000 in
theorem hc_b3 : hc_all 3000 1000 = true := by decide +kernel

set_option maxRecDepth 100000 in
theorem hc_b4 : hc_all 4000 1000 = true := by decide +kernel

set_option maxRecDepth 100000 in
theorem hc_b5 : hc_all 5000 1000 = true := by decide +kernel

set_option maxRecDepth 100000 in
theorem hc_b6 : hc_all 6000 1000 = true := by decide +kernel

set_option maxRecDepth 100000 in
theorem hc_b7 : hc_all 7000 1000 = true := by decide +kernel

set_option maxRecDepth 100000 in
theorem hc_b8 : hc_all 8000 1000 = true := by decide +kernel

set_option maxRecDepth 100000 in
theorem hc_b9 : hc_all 9000 1000 = true := by decide +kernel

set_option maxRecDepth 100000 in
theorem hc_b10 : hc_all 10000 1000 = true := by decide +kernel

set_option maxRecDepth 100000 in
theorem hc_b11 : hc_all 11000 1000 = true := by decide +kernel

set_option maxRecDepth 100000 in
theorem hc_b12 : hc_all 12000 1000 = true := by decide +kernel

set_option maxRecDepth 100000 in
theorem hc_b13 : hc_all 13000 1000 = true := by decide +kernel

set_option maxRecDepth 100000 in
theorem hc_b14 : hc_all 14000 1000 = true := by decide +kernel

set_option maxRecDepth 100000 in
theorem hc_b15 : hc_all 15000 1000 = true := by decide +kernel

set_option maxRecDepth 100000 in
theorem hc_b16 : hc_all 16000 1000 = true := by decide +kernel

set_option maxRecDepth 100000 in
theorem hc_b17 : hc_all 17000 1000 = true := by decide +kernel

set_option maxRecDepth 100000 in
theorem hc_b18 : hc_all 18000 1000 = true := by decide +kernel

set_option maxRecDepth 100000 in
theorem hc_b19 : hc_all 19000 1000 = true := by decide +kernel

set_option maxRecDepth 100000 in
theorem hc_b20 : hc_all 20000 1000 = true := by decide +kernel

set_option maxRecDepth 100000 in
theorem hc_b21 : hc_all 21000 1000 = true := by decide +kernel

set_option maxRecDepth 100000 in
theorem hc_b22 : hc_all 22000 1000 = true := by decide +kernel

set_option maxRecDepth 100000 in
theorem hc_b23 : hc_all 23000 406 = true := by decide +kernel

def hc_P (w K : Nat) : Prop := ∀ y, y < w → ∃ k, k ≤ K ∧ hc_mix ((y + k * 1013904242) % 4294967296) < 2147483648
theorem hc_blk {lo n : Nat} (h : hc_all lo n = true) (hlo : lo + n ≤ 4294967296) {y : Nat} (h1 : lo ≤ y) (h2 : y < lo + n) : ∃ k, k ≤ 40 ∧ hc_mix ((y + k * 1013904242) % 4294967296) < 2147483648 := by
  have h3 := hc_all_ok lo n h (y - lo) (by omega)
  have e : lo + (y - lo) = y := by omega
  rw [e] at h3
  have e2 : y % 4294967296 = y := Nat.mod_eq_of_lt (by omega)
  rw [← e2] at h3
  obtain ⟨k, hk, hq⟩ := hc_one_ok 41 y h3
  exact ⟨k, by omega, hq⟩
theorem hc_P0 : hc_P 23406 40 := by
  intro y hy
  rcases Nat.lt_or_ge y 1000 with q0 | q0
  · exact hc_blk hc_b0 (by decide) (by omega) (by omega)
  rcases Nat.lt_or_ge y 2000 with q1 | q1
  · exact hc_blk hc_b1 (by decide) (by omega) (by omega)
  rcases Nat.lt_or_ge y 3000 with q2 | q2
  · exact hc_blk hc_b2 (by decide) (by omega) (by omega)
  rcases Nat.lt_or_ge y 4000 with q3 | q3
  · exact hc_blk hc_b3 (by decide) (by omega) (by omega)
  rcases Nat.lt_or_ge y 5000 with q4 | q4
  · exact hc_blk hc_b4 (by decide) (by omega) (by omega)
  rcases Nat.lt_or_ge y 6000 with q5 | q5
  · exact hc_blk hc_b5 (by decide) (by omega) (by omega)
  rcases Nat.lt_or_ge y 7000 with q6 | q6
  · exact hc_blk hc_b6 (by decide) (by omega) (by omega)
  rcases Nat.lt_or_ge y 8000 with q7 | q7
  · exact hc_blk hc_b7 (by decide) (by omega) (by omega)
  rcases Nat.lt_or_ge y 9000 with q8 | q8
  · exact hc_blk hc_b8 (by decide) (by omega) (by omega)
  rcases Nat.lt_or_ge y 10000 with q9 | q9
  · exact hc_blk hc_b9 (by decide) (by omega) (by omega)
  rcases Nat.lt_or_ge y 11000 with q10 | q10
  · exact hc_blk hc_b10 (by decide) (by omega) (by omega)
  rcases Nat.lt_or_ge y 12000 with q11 | q11
  · exact hc_blk hc_b11 (by decide) (by omega) (by omega)
  rcases Nat.lt_or_ge y 13000 with q12 | q12
  · exact hc_blk hc_b12 (by decide) (by omega) (by omega)
  rcases Nat.lt_or_ge y 14000 with q13 | q13
  · exact hc_blk hc_b13 (by decide) (by omega) (by omega)
  rcases Nat.lt_or_ge y 15000 with q14 | q14
  · exact hc_blk hc_b14 (by decide) (by omega) (by omega)
  rcases Nat.lt_or_ge y 16000 with q15 | q15
  · exact hc_blk hc_b15 (by decide) (by omega) (by omega)
  rcases Nat.lt_or_ge y 17000 with q16 | q16
  · exact hc_blk hc_b16 (by decide) (by omega) (by omega)
  rcases Nat.lt_or_ge y 18000 with q17 | q17
  · exact hc_blk hc_b17 (by decide) (by omega) (by omega)
  rcases Nat.lt_or_ge y 19000 with q18 | q18
  · exact hc_blk hc_b18 (by decide) (by omega) (by omega)
  rcases Nat.lt_or_ge y 20000 with q19 | q19
  · exact hc_blk hc_b19 (by decide) (by omega) (by omega)
  rcases Nat.lt_or_ge y 21000 with q20 | q20
  · exact hc_blk hc_b20 (by decide) (by omega) (by omega)
  rcases Nat.lt_or_ge y 22000 with q21 | q21
  · exact hc_blk hc_b21 (by decide) (by omega) (by omega)
  rcases Nat.lt_or_ge y 23000 with q22 | q22
  · exact hc_blk hc_b22 (by decide) (by omega) (by omega)
  exact hc_blk hc_b23 (by decide) (by omega) (by omega)

theorem hc_step {d K ki q w : Nat} (hk : (ki * 1013904242 + d) % 4294967296 = 0) (hd : 0 < d) (hw : w ≤ (q + 1) * d) (h : hc_P d K) : hc_P w (K + q * ki) := by
  intro y hy
  have hj : y / d < q + 1 := Nat.div_lt_of_lt_mul (by rw [Nat.mul_comm]; omega)
  obtain ⟨k, hk1, hk2⟩ := h (y % d) (Nat.mod_lt _ hd)
  refine ⟨k + y / d * ki, ?_, ?_⟩
  · have : y / d * ki ≤ q * ki := Nat.mul_le_mul_right _ (by omega)
    omega
  · obtain ⟨c, hc⟩ := Nat.dvd_of_mod_eq_zero hk
    have e0 : y = d * (y / d) + y % d := (Nat.div_add_mod y d).symm
    have e : y + (k + y / d * ki) * 1013904242 = (y % d + k * 1013904242) + 4294967296 * (y / d * c) := by
      have e1 : 4294967296 * (y / d * c) = y / d * (ki * 1013904242 + d) := by rw [hc, Nat.mul_left_comm]
      rw [e1, Nat.mul_add, Nat.add_mul, Nat.mul_comm (y / d) d, Nat.mul_assoc]
      generalize y / d * (ki * 1013904242) = z
      omega
    rw [e, Nat.add_mul_mod_self_left]
    exact hk2

theorem hc_P1 : hc_P 64480 150090 := hc_step (d := 23406) (K := 40) (ki := 75025) (q := 2) (by decide +kernel) (by decide) (by decide) hc_P0

theorem hc_P2 : hc_P 234514 219642 := hc_step (d := 64480) (K := 150090) (ki := 23184) (q := 3) (by decide +kernel) (by decide) (by decide) hc_P1

theorem hc_P3 : hc_P 404548 237353 := hc_step (d := 234514) (K := 219642) (ki := 17711) (q := 1) (by decide +kernel) (by decide) (by decide) hc_P2

theorem hc_P4 : hc_P 744616 249591 := hc_step (d := 404548) (K := 237353) (ki := 12238) (q := 1) (by decide +kernel) (by decide) (by decide) hc_P3

theorem hc_P5 : hc_P 3893114 256051 := hc_step (d := 744616) (K := 249591) (ki := 1292) (q := 5) (by decide +kernel) (by decide) (by decide) hc_P4

theorem hc_P6 : hc_P 7041612 257038 := hc_step (d := 3893114) (K := 256051) (ki := 987) (q := 1) (by decide +kernel) (by decide) (by decide) hc_P5

theorem hc_P7 : hc_P 13338608 257720 := hc_step (d := 7041612) (K := 257038) (ki := 682) (q := 1) (by decide +kernel) (by decide) (by decide) hc_P6

theorem hc_P8 : hc_P 69841538 258080 := hc_step (d := 13338608) (K := 257720) (ki := 72) (q := 5) (by decide +kernel) (by decide) (by decide) hc_P7

theorem hc_P9 : hc_P 126344468 258135 := hc_step (d := 69841538) (K := 258080) (ki := 55) (q := 1) (by decide +kernel) (by decide) (by decide) hc_P8

theorem hc_P10 : hc_P 239350328 258173 := hc_step (d := 126344468) (K := 258135) (ki := 38) (q := 1) (by decide +kernel) (by decide) (by decide) hc_P9

theorem hc_P11 : hc_P 1253254570 258193 := hc_step (d := 239350328) (K := 258173) (ki := 4) (q := 5) (by decide +kernel) (by decide) (by decide) hc_P10

theorem hc_P12 : hc_P 2267158812 258196 := hc_step (d := 1253254570) (K := 258193) (ki := 3) (q := 1) (by decide +kernel) (by decide) (by decide) hc_P11

theorem hc_P13 : hc_P 4294967296 258198 := hc_step (d := 2267158812) (K := 258196) (ki := 2) (q := 1) (by decide +kernel) (by decide) (by decide) hc_P12

theorem hs_u_nat (x : Int32) (k : Nat) (hk : k < 32) : (hs_u x (nI k)).toBitVec.toNat = x.toBitVec.toNat / 2 ^ k := pk_ushr x (nI k) k (s_u k hk)
theorem hsh_nat (a t : Int32) : (hsh a t).toBitVec.toNat = hc_mix ((a.toBitVec.toNat + t.toBitVec.toNat * 2654435769) % 4294967296) := by
  have h1 : (hs_1 a t).toBitVec.toNat = (a.toBitVec.toNat + t.toBitVec.toNat * 2654435769) % 4294967296 := by
    unfold hs_1
    rw [Int32.toBitVec_add, Int32.toBitVec_mul, BitVec.toNat_add, BitVec.toNat_mul]
    have e : (-1640531527 : Int32).toBitVec.toNat = 2654435769 := by decide
    rw [e]
    omega
  have h2 : ∀ x : Int32, (hs_2 x).toBitVec.toNat = ((x.toBitVec.toNat ^^^ (x.toBitVec.toNat / 65536)) * 2246822507) % 4294967296 := by
    intro x
    unfold hs_2
    rw [Int32.toBitVec_mul, BitVec.toNat_mul, Int32.toBitVec_xor, BitVec.toNat_xor, hs_u_nat x 16 (by decide)]
    have e : (-2048144789 : Int32).toBitVec.toNat = 2246822507 := by decide
    rw [e]
  have h3 : ∀ x : Int32, (hs_3 x).toBitVec.toNat = ((x.toBitVec.toNat ^^^ (x.toBitVec.toNat / 8192)) * 3266489909) % 4294967296 := by
    intro x
    unfold hs_3
    rw [Int32.toBitVec_mul, BitVec.toNat_mul, Int32.toBitVec_xor, BitVec.toNat_xor, hs_u_nat x 13 (by decide)]
    have e : (-1028477387 : Int32).toBitVec.toNat = 3266489909 := by decide
    rw [e]
  unfold hsh hs_4 hc_mix
  rw [Int32.toBitVec_xor, BitVec.toNat_xor, hs_u_nat _ 16 (by decide), h3, h2, h1]
theorem nI_tn {n : Nat} (h : n < 2 ^ 32) : (nI n).toBitVec.toNat = n := pk_tn h
/-- some HASH of an odd number below two million has its highest bit 0 -/
theorem hs_low (a : Int32) : ∃ k, k < 1000000 ∧ (hsh a (nI (2 * k + 1))).toBitVec.toNat < 2147483648 := by
  obtain ⟨k, hk, hq⟩ := hc_P13 ((a.toBitVec.toNat + 2654435769) % 4294967296) (Nat.mod_lt _ (by decide))
  refine ⟨k, by omega, ?_⟩
  rw [hsh_nat, nI_tn (by omega)]
  have e : ((a.toBitVec.toNat + 2654435769) % 4294967296 + k * 1013904242) % 4294967296 = (a.toBitVec.toNat + (2 * k + 1) * 2654435769) % 4294967296 := by omega
  rw [← e]; exact hq
