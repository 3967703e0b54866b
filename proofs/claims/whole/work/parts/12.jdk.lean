/-! numberOfTrailingZeros, bitCount, fill -/
def ntzA (x0 x1 : Int32) : Int32 := if x0 ≤ 4 then x1 + (((x0).toUInt32 >>> ((1 : Int32).toUInt32 &&& Int32.toUInt32 31)).toInt32) else (x1 + 2) + (((((x0).toUInt32 >>> ((2 : Int32).toUInt32 &&& Int32.toUInt32 31)).toInt32).toUInt32 >>> ((1 : Int32).toUInt32 &&& Int32.toUInt32 31)).toInt32)
def ntzB (x0 x1 : Int32) : Int32 := if x0 ≤ 16 then ntzA x0 x1 else ntzA (((x0).toUInt32 >>> ((4 : Int32).toUInt32 &&& Int32.toUInt32 31)).toInt32) (x1 + 4)
def ntzC (x0 x1 : Int32) : Int32 := if x0 ≤ 256 then ntzB x0 x1 else ntzB (((x0).toUInt32 >>> ((8 : Int32).toUInt32 &&& Int32.toUInt32 31)).toInt32) (x1 + 8)
def ntzD (y : Int32) : Int32 := if 0 < y then (if y ≤ 65536 then ntzC y 1 else ntzC (((y).toUInt32 >>> ((16 : Int32).toUInt32 &&& Int32.toUInt32 31)).toInt32) (1 + 16)) else y &&& 32
theorem ntzA_wp (x0 x1 : Int32) {K : Int32 → Prop} (h : K (ntzA x0 x1)) : wp_J6_numberOfTrailingZeros_0f7a4_J62 K x0 x1 := by
  unfold ntzA at h
  refine ⟨fun hc => ?_, fun hc => ?_⟩
  · rw [if_pos hc] at h; exact h
  · rw [if_neg hc] at h
    intro a ha b hb
    rw [ha, hb]; exact h
theorem ntzB_wp (x0 x1 : Int32) {K : Int32 → Prop} (h : K (ntzB x0 x1)) : wp_J6_numberOfTrailingZeros_0f7a4_J49 K x0 x1 := by
  unfold ntzB at h
  refine ⟨fun hc => ?_, fun hc => ?_⟩
  · rw [if_pos hc] at h; exact ntzA_wp _ _ h
  · rw [if_neg hc] at h
    intro a ha b hb
    rw [ha, hb]; exact ntzA_wp _ _ h
theorem ntzC_wp (x0 x1 : Int32) {K : Int32 → Prop} (h : K (ntzC x0 x1)) : wp_J6_numberOfTrailingZeros_0f7a4_J34 K x0 x1 := by
  unfold ntzC at h
  refine ⟨fun hc => ?_, fun hc => ?_⟩
  · rw [if_pos hc] at h; exact ntzB_wp _ _ h
  · rw [if_neg hc] at h
    intro a ha b hb
    rw [ha, hb]; exact ntzB_wp _ _ h
theorem ntz_wp (x0 : Int32) {K : Int32 → Prop} (h : K (ntzD ((x0 ^^^ (-1)) &&& (x0 - 1)))) : wp_J6_numberOfTrailingZeros_0f7a4 x0 K := by
  intro y hy
  rw [← hy] at h
  unfold ntzD at h
  refine ⟨fun hc => ?_, fun hc => ?_⟩
  · rw [if_pos hc] at h
    refine ⟨fun hd => ?_, fun hd => ?_⟩
    · rw [if_pos hd] at h; exact ntzC_wp _ _ h
    · rw [if_neg hd] at h
      intro a ha b hb
      rw [ha, hb]; exact ntzC_wp _ _ h
  · rw [if_neg hc] at h; exact h
theorem ntz_tab : ∀ t, t < 32 → ntzD (nI (2 ^ t - 1)) = nI t := by decide +kernel
theorem ntz_mask {n t : Nat} (h : n.testBit t = true) (h2 : ∀ j, j < t → n.testBit j = false) : andn (n - 1) n = 2 ^ t - 1 := by
  obtain ⟨m, hm⟩ := low_ones h h2
  have hp : 0 < 2 ^ t := Nat.two_pow_pos t
  have e1 : n - 1 = 2 ^ t * (2 * m) + (2 ^ t - 1) := by
    rw [hm, Nat.mul_add, Nat.mul_one]
    omega
  have e2 : n = 2 ^ t * (2 * m) + 2 ^ t := by rw [hm, Nat.mul_add, Nat.mul_one]
  apply Nat.eq_of_testBit_eq
  intro j
  rw [andn_bit, Nat.testBit_two_pow_sub_one]
  by_cases hj : j < t
  · rw [h2 j hj, e1, Nat.testBit_two_pow_mul_add _ (by omega), if_pos hj, Nat.testBit_two_pow_sub_one]
    simp [hj]
  · rw [e1, Nat.testBit_two_pow_mul_add _ (by omega), if_neg hj, hm, Nat.testBit_two_pow_mul]
    by_cases h0 : j = t
    · subst h0; simp
    · have e3 : ∃ i, j - t = i + 1 := ⟨j - t - 1, by omega⟩
      obtain ⟨i, hi⟩ := e3
      rw [hi, Nat.testBit_succ, Nat.testBit_succ]
      have e4 : (2 * m + 1) / 2 = m := by omega
      have e5 : 2 * m / 2 = m := by omega
      have e6 : t ≤ j := by omega
      rw [e4, e5]
      simp [hj, e6]
theorem s_ntz {n t : Nat} (hn : n < 2 ^ 32) (h : n.testBit t = true) (h2 : ∀ j, j < t → n.testBit j = false) {K : Int32 → Prop} (hK : K (nI t)) : wp_J6_numberOfTrailingZeros_0f7a4 (nI n) K := by
  apply ntz_wp
  have h1 : 0 < n := by
    rcases Nat.eq_zero_or_pos n with q | q
    · rw [q] at h; simp at h
    · exact q
  have e1 : nI n - 1 = nI (n - 1) := pk_sub (b := 1) h1
  have ht : t < 32 := tb_of_lt hn h
  have e2 : (nI n ^^^ (-1)) &&& (nI n - 1) = nI (2 ^ t - 1) := by
    rw [e1, ← ntz_mask h h2, ← q_andn, Int32.and_comm]
  rw [e2, ntz_tab t ht]
  exact hK
/-! bitCount of numbers below 65536 -/
def pop (n : Nat) : Nat → Nat
  | 0 => 0
  | f + 1 => n % 2 + pop (n / 2) f
def bcN (n : Nat) : Nat :=
  let a := n - ((n / 2) &&& 1431655765)
  let b := (a &&& 858993459) + ((a / 4) &&& 858993459)
  let c := (b + b / 16) &&& 252645135
  let d := c + c / 256
  let e := d + d / 65536
  e &&& 63
def allB (f : Nat → Bool) : Nat → Bool
  | 0 => true
  | n + 1 => f n && allB f n
theorem allB_at {f : Nat → Bool} : ∀ {n : Nat}, allB f n = true → ∀ j, j < n → f j = true
  | 0, _, j, hj => absurd hj (Nat.not_lt_zero j)
  | n + 1, h, j, hj => by
    unfold allB at h
    rw [Bool.and_eq_true] at h
    rcases Nat.lt_or_ge j n with q | q
    · exact allB_at h.2 j q
    · have e : j = n := by omega
      rw [e]; exact h.1
theorem and_split {a b M : Nat} (ha : a < 2 ^ 8) : (2 ^ 8 * b + a) &&& M = 2 ^ 8 * (b &&& (M / 2 ^ 8)) + (a &&& (M % 2 ^ 8)) := by
  apply Nat.eq_of_testBit_eq
  intro j
  have h1 : a &&& (M % 2 ^ 8) < 2 ^ 8 := Nat.lt_of_le_of_lt Nat.and_le_left ha
  rw [Nat.testBit_and, Nat.testBit_two_pow_mul_add _ ha, Nat.testBit_two_pow_mul_add _ h1]
  by_cases hj : j < 8
  · rw [if_pos hj, if_pos hj, Nat.testBit_and, Nat.testBit_mod_two_pow]
    simp [hj]
  · rw [if_neg hj, if_neg hj, Nat.testBit_and, Nat.testBit_div_two_pow]
    congr 2
    omega
def bA (x : Nat) : Nat := x - (x / 2 &&& 85)
def bB (x : Nat) : Nat := (bA x &&& 51) + (bA x / 4 &&& 51)
def bC (x : Nat) : Nat := (bB x + bB x / 16) &&& 15
theorem bt_1 : allB (fun x => (x / 2 &&& 5592405) == (x / 2 &&& 85) && Nat.ble (x / 2 &&& 85) x && ((x / 2 + 128) &&& 85) == (x / 2 &&& 85)) 256 = true := by decide +kernel
theorem bt_2 : allB (fun x => (x &&& 3355443) == (x &&& 51) && (x / 4 &&& 3355443) == (x / 4 &&& 51) && ((x / 4 + 64) &&& 51) == (x / 4 &&& 51) && ((x / 4 + 128) &&& 51) == (x / 4 &&& 51) && ((x / 4 + 192) &&& 51) == (x / 4 &&& 51)) 256 = true := by decide +kernel
theorem bt_3 : allB (fun x => Nat.blt (bA x) 256 && Nat.ble (bB x) 68 && Nat.ble (bB x % 16) 4 && bC x == pop x 8 && Nat.ble (bC x) 8) 256 = true := by decide +kernel
theorem bt_4 : allB (fun x => (x &&& 986895) == (x &&& 15)) 256 = true := by decide +kernel
theorem pop_add : ∀ (f g n : Nat), pop n (f + g) = pop n f + pop (n / 2 ^ f) g
  | 0, g, n => by simp [pop]
  | f + 1, g, n => by
    rw [show f + 1 + g = (f + g) + 1 by omega, pop, pop, pop_add f g (n / 2), Nat.div_div_eq_div_mul, Nat.pow_succ, Nat.mul_comm (2 ^ f) 2]
    omega
theorem pop_mod : ∀ (f n : Nat), pop (n % 2 ^ f) f = pop n f
  | 0, n => rfl
  | f + 1, n => by
    rw [pop, pop, ← pop_mod f (n / 2), ← pop_mod f (n % 2 ^ (f + 1) / 2)]
    have e1 : n % 2 ^ (f + 1) % 2 = n % 2 := Nat.mod_mod_of_dvd n ⟨2 ^ f, by rw [Nat.pow_succ, Nat.mul_comm]⟩
    have e2 : n % 2 ^ (f + 1) / 2 % 2 ^ f = n / 2 % 2 ^ f := by
      rw [Nat.pow_succ, Nat.mul_comm, Nat.mod_mul_right_div_self, Nat.mod_mod]
    rw [e1, e2]
theorem bc_pop {n : Nat} (h : n < 65536) : bcN n = pop n 16 := by
  have en : n = 2 ^ 8 * (n / 256) + n % 256 := by omega
  have hp : pop n 16 = pop (n % 256) 8 + pop (n / 256) 8 := by
    rw [pop_add 8 8 n, ← pop_mod 8 n]
  generalize hb : n / 256 = b at *
  generalize ha : n % 256 = a at *
  have hb8 : b < 256 := by omega
  have ha8 : a < 256 := by omega
  have a1 := allB_at bt_1 a ha8
  have b1 := allB_at bt_1 b hb8
  have a3 := allB_at bt_3 a ha8
  have b3 := allB_at bt_3 b hb8
  simp only [Bool.and_eq_true, beq_iff_eq, Nat.ble_eq, Nat.blt_eq] at a1 b1 a3 b3
  have a2 := allB_at bt_2 (bA a) a3.1.1.1.1
  have b2 := allB_at bt_2 (bA b) b3.1.1.1.1
  simp only [Bool.and_eq_true, beq_iff_eq] at a2 b2
  have s1 : n / 2 &&& 1431655765 = 256 * (b / 2 &&& 85) + (a / 2 &&& 85) := by
    have e : n / 2 = 2 ^ 8 * (b / 2) + (128 * (b % 2) + a / 2) := by omega
    rw [e, and_split (by omega), show 1431655765 / 2 ^ 8 = 5592405 from rfl, show 1431655765 % 2 ^ 8 = 85 from rfl, b1.1.1]
    have : 128 * (b % 2) + a / 2 &&& 85 = a / 2 &&& 85 := by
      rcases Nat.mod_two_eq_zero_or_one b with q | q
      · rw [q]; simp
      · rw [q, show 128 * 1 + a / 2 = a / 2 + 128 by omega]; exact a1.2
    omega
  have t1 : n - (n / 2 &&& 1431655765) = 2 ^ 8 * bA b + bA a := by
    rw [s1]
    unfold bA
    omega
  have s2 : ((2 ^ 8 * bA b + bA a) &&& 858993459) + ((2 ^ 8 * bA b + bA a) / 4 &&& 858993459) = 2 ^ 8 * bB b + bB a := by
    have e : (2 ^ 8 * bA b + bA a) / 4 = 2 ^ 8 * (bA b / 4) + (64 * (bA b % 4) + bA a / 4) := by omega
    rw [e, and_split a3.1.1.1.1, and_split (by omega), show 858993459 / 2 ^ 8 = 3355443 from rfl, show 858993459 % 2 ^ 8 = 51 from rfl, b2.1.1.1.1, b2.1.1.1.2]
    have : 64 * (bA b % 4) + bA a / 4 &&& 51 = bA a / 4 &&& 51 := by
      have hc : bA b % 4 = 0 ∨ bA b % 4 = 1 ∨ bA b % 4 = 2 ∨ bA b % 4 = 3 := by omega
      rcases hc with q | q | q | q
      · rw [q]; simp
      · rw [q, show 64 * 1 + bA a / 4 = bA a / 4 + 64 by omega]; exact a2.1.1.2
      · rw [q, show 64 * 2 + bA a / 4 = bA a / 4 + 128 by omega]; exact a2.1.2
      · rw [q, show 64 * 3 + bA a / 4 = bA a / 4 + 192 by omega]; exact a2.2
    unfold bB
    omega
  have s3 : ((2 ^ 8 * bB b + bB a) + (2 ^ 8 * bB b + bB a) / 16) &&& 252645135 = 2 ^ 8 * bC b + bC a := by
    have e : (2 ^ 8 * bB b + bB a) + (2 ^ 8 * bB b + bB a) / 16 = 2 ^ 8 * (bB b + bB b / 16) + (16 * (bB b % 16) + (bB a + bB a / 16)) := by omega
    have h4 := allB_at bt_4 (bB b + bB b / 16) (by omega)
    simp only [beq_iff_eq] at h4
    rw [e, and_split (by omega), show 252645135 / 2 ^ 8 = 986895 from rfl, show 252645135 % 2 ^ 8 = 15 from rfl, h4]
    have : 16 * (bB b % 16) + (bB a + bB a / 16) &&& 15 = (bB a + bB a / 16) &&& 15 := by
      rw [show 15 = 2 ^ 4 - 1 from rfl, Nat.and_two_pow_sub_one_eq_mod, Nat.and_two_pow_sub_one_eq_mod]
      omega
    unfold bC
    omega
  unfold bcN
  simp only [t1, s2, s3]
  rw [show 63 = 2 ^ 6 - 1 from rfl, Nat.and_two_pow_sub_one_eq_mod, hp, ← a3.1.2, ← b3.1.2]
  have la := a3.2
  have lb := b3.2
  generalize bC a = x at la ⊢
  generalize bC b = y at lb ⊢
  have e1 : (2 ^ 8 * y + x) / 256 = y := by omega
  have e2 : (2 ^ 8 * y + x + y) / 65536 = 0 := by omega
  rw [e1, e2]
  omega
theorem s_bc {n : Nat} (h : n < 65536) {K : Int32 → Prop} (hK : K (nI (pop n 16))) : wp_J6_bitCount_0f7a4 (nI n) K := by
  have e1 : (((nI n).toUInt32 >>> ((1 : Int32).toUInt32 &&& Int32.toUInt32 31)).toInt32) = nI (n / 2) := pk_ushrN (by omega) 1 1 (by decide)
  have b1 : n / 2 &&& 1431655765 ≤ n / 2 := Nat.and_le_left
  intro y1 h1
  rw [e1, show (1431655765 : Int32) = nI 1431655765 from rfl, fa_and, pk_sub (by omega)] at h1
  have c1 : n - (n / 2 &&& 1431655765) < 65536 := by omega
  intro y2 h2
  have e2 : ((y1.toUInt32 >>> ((2 : Int32).toUInt32 &&& Int32.toUInt32 31)).toInt32) = nI ((n - (n / 2 &&& 1431655765)) / 4) := by rw [h1]; exact pk_ushrN (by omega) 2 2 (by decide)
  rw [e2, h1, show (858993459 : Int32) = nI 858993459 from rfl, fa_and, fa_and, nI_add] at h2
  generalize hA : n - (n / 2 &&& 1431655765) = A at *
  have d1 : A &&& 858993459 ≤ A := Nat.and_le_left
  have d2 : A / 4 &&& 858993459 ≤ A / 4 := Nat.and_le_left
  intro y3 h3
  have e3 : ((y2.toUInt32 >>> ((4 : Int32).toUInt32 &&& Int32.toUInt32 31)).toInt32) = nI (((A &&& 858993459) + (A / 4 &&& 858993459)) / 16) := by rw [h2]; exact pk_ushrN (by omega) 4 4 (by decide)
  rw [e3, h2, show (252645135 : Int32) = nI 252645135 from rfl, nI_add, fa_and] at h3
  generalize hB : (A &&& 858993459) + (A / 4 &&& 858993459) = B at *
  have d3 : (B + B / 16) &&& 252645135 ≤ B + B / 16 := Nat.and_le_left
  intro y4 h4
  have e4 : ((y3.toUInt32 >>> ((8 : Int32).toUInt32 &&& Int32.toUInt32 31)).toInt32) = nI (((B + B / 16) &&& 252645135) / 256) := by rw [h3]; exact pk_ushrN (by omega) 8 8 (by decide)
  rw [e4, h3, nI_add] at h4
  generalize hC : (B + B / 16) &&& 252645135 = C at *
  intro y5 h5
  have e5 : ((y4.toUInt32 >>> ((16 : Int32).toUInt32 &&& Int32.toUInt32 31)).toInt32) = nI ((C + C / 256) / 65536) := by rw [h4]; exact pk_ushrN (by omega) 16 16 (by decide)
  rw [e5, h4, nI_add] at h5
  rw [h5, show (63 : Int32) = nI 63 from rfl, fa_and]
  have ef : ((C + C / 256) + (C + C / 256) / 65536) &&& 63 = bcN n := by
    unfold bcN
    simp only [hA, hB, hC]
  rw [ef, bc_pop h]
  exact hK
/-! Arrays.fill -/
theorem s_fill {N : Nat} (hN : N < 2 ^ 31) (p : Nat → Int32) (x : Int32) {K : (Nat → Int32) → Prop} (hK : ∀ p', (∀ j, j < N → p' j = x) → K p') : wp_J7_fill_53178 N p x K := by
  intro y hy
  refine for_J7_fill_53178_L5 _ _ _ _ N (fun i q => ∀ j, j < i → q j = x) ?_ ?_ 0 _ _ rfl (Nat.zero_le _) (fun j hj => absurd hj (Nat.not_lt_zero _))
  · intro again i q hi hJ hag
    have e : y = nI N := hy
    unfold wp_J7_fill_53178_L5
    refine br_f (by rw [e, nI_leI hN (by omega)]; omega) ⟨vp_in_nI hi hN, ?_⟩
    rw [nI_1, nI_clamp (by omega)]
    refine nm_e (hag _ (fun j hj => ?_))
    by_cases ej : j = i
    · subst ej; exact pk_us
    · rw [pk_un ej]; exact hJ j (by omega)
  · intro again q hJ
    have e : y = nI N := hy
    unfold wp_J7_fill_53178_L5
    exact br_t (by rw [e, nI_leI hN (by omega)]; omega) (hK _ hJ)
theorem s_fillL {N : Nat} (hN : N < 2 ^ 31) (p : Nat → Int64) (x : Int64) {K : (Nat → Int64) → Prop} (hK : ∀ p', (∀ j, j < N → p' j = x) → K p') : wp_J7_fill_d0a16 N p x K := by
  intro y hy
  refine for_J7_fill_d0a16_L6 _ _ _ _ N (fun i q => ∀ j, j < i → q j = x) ?_ ?_ 0 _ _ rfl (Nat.zero_le _) (fun j hj => absurd hj (Nat.not_lt_zero _))
  · intro again i q hi hJ hag
    have e : y = nI N := hy
    unfold wp_J7_fill_d0a16_L6
    refine br_f (by rw [e, nI_leI hN (by omega)]; omega) ⟨vp_in_nI hi hN, ?_⟩
    rw [nI_1, nI_clamp (by omega)]
    refine nm_e (hag _ (fun j hj => ?_))
    by_cases ej : j = i
    · subst ej; exact pk_uLs
    · rw [pk_uLn ej]; exact hJ j (by omega)
  · intro again q hJ
    have e : y = nI N := hy
    unfold wp_J7_fill_d0a16_L6
    exact br_t (by rw [e, nI_leI hN (by omega)]; omega) (hK _ hJ)
