/-! a loop with a counter -/
theorem itr_for {σ τ : Type} (F : (σ → Prop) → σ → Prop) (mk : Nat → τ → σ) (n : Nat) (J : Nat → τ → Prop) (hs : ∀ (again : σ → Prop) (i : Nat) (s : τ), i < n → J i s → (∀ s', J (i + 1) s' → again (mk (i + 1) s')) → F again (mk i s)) (hx : ∀ (again : σ → Prop) (s : τ), J n s → F again (mk n s)) (i : Nat) (s : τ) (hi : i ≤ n) (h : J i s) : ∃ nn, itr F nn (mk i s) := by
  have key : ∀ d i s, i + d = n → J i s → itr F (d + 1) (mk i s) := by
    intro d
    induction d with
    | zero =>
      intro i s e h
      have e2 : i = n := by omega
      subst e2
      exact hx _ s h
    | succ d ih =>
      intro i s e h
      exact hs _ i s (by omega) h (fun s' h' => ih (i + 1) s' (by omega) h')
  exact ⟨n - i + 1, key (n - i) i s (by omega) h⟩
/-! numbers -/
theorem k_0 : (0 : Int32) = nI 0 := rfl
theorem k_1 : (1 : Int32) = nI 1 := rfl
theorem k_2 : (2 : Int32) = nI 2 := rfl
theorem k_3 : (3 : Int32) = nI 3 := rfl
theorem k_4 : (4 : Int32) = nI 4 := rfl
theorem k_6 : (6 : Int32) = nI 6 := rfl
theorem k_7 : (7 : Int32) = nI 7 := rfl
theorem k_10 : (10 : Int32) = nI 10 := rfl
theorem k_11 : (11 : Int32) = nI 11 := rfl
theorem k_12 : (12 : Int32) = nI 12 := rfl
theorem k_13 : (13 : Int32) = nI 13 := rfl
theorem k_14 : (14 : Int32) = nI 14 := rfl
theorem k_16 : (16 : Int32) = nI 16 := rfl
theorem k_32 : (32 : Int32) = nI 32 := rfl
theorem k_36 : (36 : Int32) = nI 36 := rfl
theorem k_40 : (40 : Int32) = nI 40 := rfl
theorem k_41 : (41 : Int32) = nI 41 := rfl
theorem k_42 : (42 : Int32) = nI 42 := rfl
theorem k_43 : (43 : Int32) = nI 43 := rfl
theorem k_49 : (49 : Int32) = nI 49 := rfl
theorem k_64 : (64 : Int32) = nI 64 := rfl
theorem k_80 : (80 : Int32) = nI 80 := rfl
theorem k_96 : (96 : Int32) = nI 96 := rfl
theorem k_97 : (97 : Int32) = nI 97 := rfl
theorem k_100 : (100 : Int32) = nI 100 := rfl
theorem k_109 : (109 : Int32) = nI 109 := rfl
theorem k_110 : (110 : Int32) = nI 110 := rfl
theorem k_127 : (127 : Int32) = nI 127 := rfl
theorem k_128 : (128 : Int32) = nI 128 := rfl
theorem k_146 : (146 : Int32) = nI 146 := rfl
theorem k_147 : (147 : Int32) = nI 147 := rfl
theorem k_160 : (160 : Int32) = nI 160 := rfl
theorem k_2304 : (2304 : Int32) = nI 2304 := rfl
theorem k_4608 : (4608 : Int32) = nI 4608 := rfl
theorem k_13824 : (13824 : Int32) = nI 13824 := rfl
theorem q_bv (n : Nat) : (nI n).toBitVec = BitVec.ofNat 32 n := rfl
theorem q_inj {a b : Nat} (ha : a < 2 ^ 32) (hb : b < 2 ^ 32) : nI a = nI b ↔ a = b := by
  constructor
  · intro h
    have h1 := congrArg (fun x : Int32 => x.toBitVec.toNat) h
    simp only [q_bv, BitVec.toNat_ofNat] at h1
    rw [Nat.mod_eq_of_lt ha, Nat.mod_eq_of_lt hb] at h1
    exact h1
  · intro h; rw [h]
theorem q_in {n N : Nat} (h : n < 2 ^ 31) : vp_in (nI n) N ↔ n < N := by
  rw [vp_in_iff, nI_toInt h]
  omega
theorem q_neg {n : Nat} (h : n < 2 ^ 31) : nI n < 0 ↔ False := ⟨fun q => nI_pos h q, False.elim⟩
theorem q_m1 {n : Nat} (h : n < 2 ^ 31) : nI n = -1 ↔ False := by
  constructor
  · intro q
    have h1 := congrArg Int32.toInt q
    rw [nI_toInt h] at h1
    have h2 : (-1 : Int32).toInt = -1 := by decide
    omega
  · exact False.elim
theorem q_shl : ∀ k, k < 32 → (1 : Int32) <<< (nI k &&& 31) = nI (2 ^ k) := by decide +kernel
theorem q_sl : ∀ n, n < 32 → ((nI n &&& 31).toBitVec.smod 32).toNat = n := by decide +kernel
theorem q_shr {n k : Nat} (hn : n < 2 ^ 31) (hk : k < 32) : nI n >>> (nI k &&& 31) = nI (n / 2 ^ k) := pk_shrN hn _ k (q_sl k hk)
theorem q_and1 (n : Nat) : nI n &&& 1 = nI (n % 2) := fa_mask n 1
theorem q_bitv {n k : Nat} (hn : n < 2 ^ 31) (hk : k < 32) : (nI n >>> (nI k &&& 31)) &&& 1 = nI (n.testBit k).toNat := by
  rw [q_shr hn hk, q_and1]
  congr 1
  rw [Nat.testBit_eq_decide_div_mod_eq]
  have := Nat.mod_two_eq_zero_or_one (n / 2 ^ k)
  rcases this with h | h <;> simp [h]
theorem q_bit {n k : Nat} (hn : n < 2 ^ 31) (hk : k < 32) : (nI n >>> (nI k &&& 31)) &&& 1 = 0 ↔ n.testBit k = false := by
  rw [q_bitv hn hk]
  cases n.testBit k <;> decide
theorem q_bit1 {n k : Nat} (hn : n < 2 ^ 31) (hk : k < 32) : (nI n >>> (nI k &&& 31)) &&& 1 = 1 ↔ n.testBit k = true := by
  rw [q_bitv hn hk]
  cases n.testBit k <;> decide
/-- what is in the first number and not in the second -/
def andn (a b : Nat) : Nat := a ^^^ (a &&& b)
theorem andn_bit (a b j : Nat) : (andn a b).testBit j = (a.testBit j && !b.testBit j) := by
  unfold andn
  rw [Nat.testBit_xor, Nat.testBit_and]
  cases a.testBit j <;> cases b.testBit j <;> rfl
theorem q_andn (a b : Nat) : nI a &&& (nI b ^^^ (-1)) = nI (andn a b) := by
  apply Int32.toBitVec_inj.1
  have e : (-1 : Int32).toBitVec = BitVec.allOnes 32 := by decide
  rw [Int32.toBitVec_and, Int32.toBitVec_xor, e, q_bv, q_bv, q_bv]
  apply BitVec.eq_of_getLsbD_eq
  intro i hi
  rw [BitVec.getLsbD_and, BitVec.getLsbD_xor, BitVec.getLsbD_ofNat, BitVec.getLsbD_ofNat, BitVec.getLsbD_ofNat, BitVec.getLsbD_allOnes, andn_bit]
  simp [hi]
theorem tb_zero {n : Nat} (h : ∀ j, n.testBit j = false) : n = 0 := by
  apply Nat.eq_of_testBit_eq
  intro i
  rw [h i]
  simp
theorem andn_zero (a b : Nat) : andn a b = 0 ↔ ∀ j, a.testBit j = true → b.testBit j = true := by
  constructor
  · intro h j ha
    have h1 := andn_bit a b j
    rw [h, ha] at h1
    simp at h1
    exact h1
  · intro h
    apply tb_zero
    intro j
    rw [andn_bit]
    cases ha : a.testBit j with
    | false => rfl
    | true => rw [h j ha]; rfl
theorem tb_lt {n k : Nat} (h : ∀ j, n.testBit j = true → j < k) : n < 2 ^ k := Nat.lt_pow_two_of_testBit n (fun i hi => by
  cases hb : n.testBit i with
  | false => rfl
  | true => exact absurd (h i hb) (by omega))
theorem tb_of_lt {n k j : Nat} (h : n < 2 ^ k) (hb : n.testBit j = true) : j < k := by
  rcases Nat.lt_or_ge j k with q | q
  · exact q
  · have h1 : n < 2 ^ j := Nat.lt_of_lt_of_le h (Nat.pow_le_pow_right (by decide) q)
    rw [Nat.testBit_lt_two_pow h1] at hb
    cases hb
theorem andn_lt {a b k : Nat} (h : a < 2 ^ k) : andn a b < 2 ^ k := tb_lt (fun j hj => tb_of_lt h (by rw [andn_bit] at hj; simp at hj; exact hj.1))
theorem or_lt {a b k : Nat} (ha : a < 2 ^ k) (hb : b < 2 ^ k) : a ||| b < 2 ^ k := Nat.or_lt_two_pow ha hb
theorem tb_or2 (n k j : Nat) : (n ||| 2 ^ k).testBit j = (n.testBit j || decide (j = k)) := fb_bit_set n k j
theorem pow_lt {k n : Nat} (h : k < n) : 2 ^ k < 2 ^ n := Nat.pow_lt_pow_right (by decide) h
theorem or2_lt {a k n : Nat} (ha : a < 2 ^ n) (hk : k < n) : a ||| 2 ^ k < 2 ^ n := or_lt ha (pow_lt hk)
theorem tb_false {n j : Nat} (h : ¬ n.testBit j = true) : n.testBit j = false := by
  cases e : n.testBit j with
  | false => rfl
  | true => exact absurd e h
/-! yes and no as ints -/
def bI (b : Bool) : Int32 := if b then 1 else 0
theorem bI_t : bI true = 1 := rfl
theorem bI_f : bI false = 0 := rfl
theorem bI_0 {b : Bool} : bI b = 0 ↔ b = false := by cases b <;> decide
theorem bI_1 {b : Bool} : bI b = 1 ↔ b = true := by cases b <;> decide
theorem bI_n {b : Bool} : ¬ bI b = 0 ↔ b = true := by cases b <;> decide
theorem bI_nI (b : Bool) : bI b = nI b.toNat := by cases b <;> rfl
/-- branches, the other way round -/
theorem br_t' {c A B : Prop} (h : c) (a : B) : (¬ c → A) ∧ (c → B) := ⟨fun q => absurd h q, fun _ => a⟩
theorem br_f' {c A B : Prop} (h : ¬ c) (a : A) : (¬ c → A) ∧ (c → B) := ⟨fun _ => a, fun q => absurd q h⟩
/-- an int between 0 and n, or not -/
theorem in_cases (x : Int32) {n : Nat} (hn : n < 2 ^ 31) : (∃ j, j < n ∧ x = nI j) ∨ (¬ ∃ j, j < n ∧ x = nI j) := Classical.em _
theorem in_not {x : Int32} {n : Nat} (hn : n < 2 ^ 31) (h : ¬ ∃ j, j < n ∧ x = nI j) : x < 0 ∨ nI n ≤ x := by
  rcases pk_ix x hn with q | q | q
  · exact Or.inl q
  · exact Or.inr q
  · exact absurd q h
/-! the lowest bit -/
def lowb (n : Nat) : Nat → Nat
  | 0 => 0
  | f + 1 => if n % 2 = 1 then 0 else lowb (n / 2) f + 1
theorem lowb_spec : ∀ (f n : Nat), n < 2 ^ f → n ≠ 0 → n.testBit (lowb n f) = true ∧ (∀ j, j < lowb n f → n.testBit j = false) ∧ lowb n f < f
  | 0, n, h, h0 => by simp at h; exact absurd h h0
  | f + 1, n, h, h0 => by
    unfold lowb
    split
    · rename_i e
      refine ⟨by rw [Nat.testBit_zero]; simp [e], fun j hj => absurd hj (Nat.not_lt_zero _), by omega⟩
    · rename_i e
      have h1 : n / 2 ≠ 0 := by omega
      have h2 : n / 2 < 2 ^ f := by rw [Nat.pow_succ] at h; omega
      obtain ⟨a, b, c⟩ := lowb_spec f (n / 2) h2 h1
      refine ⟨by rw [Nat.testBit_succ]; exact a, fun j hj => ?_, by omega⟩
      cases j with
      | zero => rw [Nat.testBit_zero]; simp; omega
      | succ j => rw [Nat.testBit_succ]; exact b j (by omega)
theorem lowb_ex {f n : Nat} (h : n < 2 ^ f) (h0 : n ≠ 0) : ∃ t, t < f ∧ n.testBit t = true ∧ ∀ j, j < t → n.testBit j = false := by
  obtain ⟨a, b, c⟩ := lowb_spec f n h h0
  exact ⟨lowb n f, c, a, b⟩
theorem lowb_one {n t t' : Nat} (h : n.testBit t = true) (h2 : ∀ j, j < t → n.testBit j = false) (h' : n.testBit t' = true) (h2' : ∀ j, j < t' → n.testBit j = false) : t = t' := by
  rcases Nat.lt_trichotomy t t' with q | q | q
  · rw [h2' t q] at h; cases h
  · exact q
  · rw [h2 t' q] at h'; cases h'
/-- the ones below the lowest bit: (x ^ -1) & (x - 1) -/
theorem low_ones {n t : Nat} (h : n.testBit t = true) (h2 : ∀ j, j < t → n.testBit j = false) : ∃ m, n = 2 ^ t * (2 * m + 1) := by
  have h3 : n % 2 ^ t = 0 := by
    apply tb_zero
    intro j
    rw [Nat.testBit_mod_two_pow]
    by_cases hj : j < t
    · rw [h2 j hj]; simp
    · simp [hj]
  have h4 : n = 2 ^ t * (n / 2 ^ t) := by
    have := Nat.div_add_mod n (2 ^ t)
    omega
  have h5 : n / 2 ^ t % 2 = 1 := by
    rw [Nat.testBit_eq_decide_div_mod_eq] at h
    simpa using h
  exact ⟨n / 2 ^ t / 2, by rw [show 2 * (n / 2 ^ t / 2) + 1 = n / 2 ^ t by omega]; exact h4⟩
