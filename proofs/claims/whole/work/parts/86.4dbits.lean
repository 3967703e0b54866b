/-! bits of rows of longs -/
def bt (x : Int64) (i : Nat) : Bool := x.toBitVec.toNat.testBit i
theorem bt_lN {n i : Nat} (h : n < 2 ^ 64) : bt (lN n) i = n.testBit i := by unfold bt; rw [wb_tn h]
theorem bt_64 {x : Int64} {i : Nat} (h : bt x i = true) : i < 64 := tb_of_lt (k := 64) x.toBitVec.isLt h
theorem bt_read {x : Int64} {i : Nat} (hi : i < 64) : (x >>> ((nI i).toInt64 &&& 63)) &&& 1 = lN (bt x i).toNat := by
  obtain ⟨n, hn, rfl⟩ := wb_of x
  rw [bt_lN hn]
  exact l_bs hi
theorem bt_readU {x : Int64} {i : Nat} (hi : i < 64) : (x.toUInt64 >>> ((nI i).toInt64.toUInt64 &&& Int64.toUInt64 63)).toInt64 &&& 1 = lN (bt x i).toNat := by
  obtain ⟨n, hn, rfl⟩ := wb_of x
  rw [bt_lN hn]
  exact l_bu hn hi
theorem bt_or (x y : Int64) (i : Nat) : bt (x ||| y) i = (bt x i || bt y i) := by
  obtain ⟨n, hn, rfl⟩ := wb_of x
  obtain ⟨m, hm, rfl⟩ := wb_of y
  rw [l_or, bt_lN hn, bt_lN hm, bt_lN (or_lt hn hm), Nat.testBit_or]
theorem bt_and (x y : Int64) (i : Nat) : bt (x &&& y) i = (bt x i && bt y i) := by
  obtain ⟨n, hn, rfl⟩ := wb_of x
  obtain ⟨m, hm, rfl⟩ := wb_of y
  rw [wb_and hn hm, bt_lN hn, bt_lN hm, bt_lN (Nat.lt_of_le_of_lt Nat.and_le_left hn), Nat.testBit_and]
theorem bt_one {i j : Nat} (hi : i < 64) : bt ((1 : Int64) <<< ((nI i).toInt64 &&& 63)) j = decide (i = j) := by
  rw [l_1 hi, bt_lN (Nat.pow_lt_pow_right (by decide) hi), Nat.testBit_two_pow]
theorem bt_0 (i : Nat) : bt 0 i = false := by
  rw [show (0 : Int64) = lN 0 from rfl, bt_lN (by decide), Nat.zero_testBit]
theorem bt_ext {x y : Int64} (h : ∀ i, i < 64 → bt x i = bt y i) : x = y := by
  obtain ⟨n, hn, rfl⟩ := wb_of x
  obtain ⟨m, hm, rfl⟩ := wb_of y
  have : n = m := by
    apply Nat.eq_of_testBit_eq
    intro i
    by_cases hi : i < 64
    · have := h i hi
      rw [bt_lN hn, bt_lN hm] at this
      exact this
    · have a : n.testBit i = false := tb_false (fun q => hi (tb_of_lt hn q))
      have b : m.testBit i = false := tb_false (fun q => hi (tb_of_lt hm q))
      rw [a, b]
  rw [this]
theorem e_d64 : ∀ s, s < 256 → nI s / nI 64 = nI (s / 64) ∧ nI s - nI (s / 64) * nI 64 = nI (s % 64) := by decide +kernel
/-- a set of states of one row -/
def SB (sets : Nat → Int64) (b s : Nat) : Bool := bt (sets (4 * b + s / 64)) (s % 64)
theorem SB_up {sets : Nat → Int64} {b s b' t : Nat} (hs : s < 256) (ht : t < 256) : SB (vp_updL sets (4 * b + s / 64) (sets (4 * b + s / 64) ||| ((1 : Int64) <<< ((nI (s % 64)).toInt64 &&& 63)))) b' t = (SB sets b' t || decide (b' = b ∧ t = s)) := by
  unfold SB
  by_cases e : 4 * b' + t / 64 = 4 * b + s / 64
  · rw [e, pk_uLs, bt_or, bt_one (by omega)]
    congr 1
    apply decide_eq_decide.mpr
    omega
  · rw [pk_uLn e]
    have : ¬ (b' = b ∧ t = s) := by
      rintro ⟨rfl, rfl⟩
      exact e rfl
    rw [decide_eq_false this, Bool.or_false]
theorem s_hasS {sets : Nat → Int64} {b s : Nat} (hb : b < 2304) (hs : s < 256) {K : Int32 → Prop} (hK : K (bI (SB sets b s))) : wp_X11_has sets (nI b) (nI s) K := by
  have ⟨d1, d2⟩ := e_d64 s hs
  unfold wp_X11_has
  rw [k_64, d1, d2]
  rw [k_4, pk_mul, nI_add, nI_clamp (by omega), bt_read (by omega)]
  refine ⟨(q_in (by omega)).mpr (by omega), ?_⟩
  simp only [lgc, l_b1]
  unfold SB at hK
  cases h : bt (sets (4 * b + s / 64)) (s % 64) with
  | false => rw [h] at hK; exact br_f' (by decide) hK
  | true => rw [h] at hK; exact br_t' rfl hK
def cnF (C : Nat → Bool) (n : Nat) : Nat := fld (fun s a => if C s then a else a + 1) 0 n
theorem cnF_s (C : Nat → Bool) (n : Nat) : cnF C (n + 1) = if C n then cnF C n else cnF C n + 1 := rfl
theorem cnF_le (C : Nat → Bool) : ∀ n, cnF C n ≤ n
  | 0 => Nat.le_refl _
  | n + 1 => by
    have := cnF_le C n
    rw [cnF_s]
    split <;> omega
theorem cnF_eq {C C' : Nat → Bool} : ∀ n, (∀ s, s < n → C' s = C s) → cnF C' n = cnF C n
  | 0, _ => rfl
  | n + 1, h => by rw [cnF_s, cnF_s, h n (by omega), cnF_eq n (fun s hs => h s (by omega))]
theorem cnF_up {C C' : Nat → Bool} {i : Nat} (h0 : C i = false) (h1 : C' i = true) (h : ∀ s, s ≠ i → C' s = C s) : ∀ n, i < n → cnF C' n + 1 = cnF C n
  | n + 1, hi => by
    rw [cnF_s, cnF_s]
    by_cases e : i = n
    · subst e
      rw [h0, h1, cnF_eq i (fun s hs => h s (by omega))]
      rfl
    · have ih := cnF_up h0 h1 h n (by omega)
      rw [h n (by omega)]
      split <;> omega
