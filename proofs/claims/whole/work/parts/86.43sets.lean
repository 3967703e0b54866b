/-! longs as sets (the rows wb_ are pasted from the laws) -/
theorem wb_tb (n : Nat) : (lN n).toBitVec = BitVec.ofNat 64 n := rfl
theorem wb_inj {a b : Int64} (h : a.toBitVec = b.toBitVec) : a = b := Int64.toBitVec_inj.mp h
theorem wb_tn {n : Nat} (h : n < 2 ^ 64) : (lN n).toBitVec.toNat = n := by rw [wb_tb, BitVec.toNat_ofNat, Nat.mod_eq_of_lt h]
theorem wb_of (x : Int64) : ∃ n, n < 2 ^ 64 ∧ x = lN n := ⟨x.toBitVec.toNat, x.toBitVec.isLt, wb_inj (by rw [wb_tb]; simp)⟩
theorem wb_of32 (x : Int32) : ∃ n, n < 2 ^ 32 ∧ x = nI n := ⟨x.toBitVec.toNat, x.toBitVec.isLt, Int32.toBitVec_inj.mp (by show _ = BitVec.ofNat 32 _; simp)⟩
theorem wb_c : ∀ k, k < 64 → ((nI k).toInt64 &&& 63) = lN k := by decide +kernel
theorem wb_cu : ∀ k, k < 64 → ((nI k).toInt64.toUInt64 &&& Int64.toUInt64 63) = UInt64.ofNat k := by decide +kernel
theorem wb_sm : ∀ k, k < 64 → (BitVec.ofNat 64 k).smod 64 = BitVec.ofNat 64 k := by decide +kernel
theorem wb_pw {a b : Nat} (h : a ≤ b) : 2 ^ b = 2 ^ a * 2 ^ (b - a) := by rw [← Nat.pow_add]; congr 1; omega
theorem wb_lt2 {a b : Nat} (h : a < b) : 2 ^ a < 2 ^ b := Nat.pow_lt_pow_right (by decide) h
theorem wb_mod (n : Nat) : lN n = lN (n % 2 ^ 64) := wb_inj (by rw [wb_tb, wb_tb]; apply BitVec.eq_of_toNat_eq; rw [BitVec.toNat_ofNat, BitVec.toNat_ofNat, Nat.mod_mod])
theorem wb_shr {n k : Nat} (hn : n < 2 ^ 64) (hk : k < 64) : ((lN n).toUInt64 >>> ((nI k).toInt64.toUInt64 &&& Int64.toUInt64 63)).toInt64 = lN (n / 2 ^ k) := by
  rw [wb_cu k hk]
  apply wb_inj
  apply BitVec.eq_of_toNat_eq
  show ((lN n).toUInt64 >>> UInt64.ofNat k).toNat = (BitVec.ofNat 64 _).toNat
  have h1 : (UInt64.ofNat k).toNat = k := by
    show (BitVec.ofNat 64 k).toNat = k
    rw [BitVec.toNat_ofNat, Nat.mod_eq_of_lt (by omega)]
  have h2 : (lN n).toUInt64.toNat = n := wb_tn hn
  rw [UInt64.toNat_shiftRight, h1, h2, Nat.mod_eq_of_lt hk, Nat.shiftRight_eq_div_pow, BitVec.toNat_ofNat, Nat.mod_eq_of_lt (Nat.lt_of_le_of_lt (Nat.div_le_self _ _) hn)]
theorem wb_shl (n : Nat) {k : Nat} (hk : k < 64) : lN n <<< ((nI k).toInt64 &&& 63) = lN (n * 2 ^ k) := by
  rw [wb_c k hk]
  apply wb_inj
  rw [Int64.toBitVec_shiftLeft, wb_tb, wb_tb, wb_tb, wb_sm k hk]
  apply BitVec.eq_of_toNat_eq
  rw [BitVec.shiftLeft_eq', BitVec.toNat_shiftLeft, BitVec.toNat_ofNat, BitVec.toNat_ofNat, BitVec.toNat_ofNat, Nat.mod_eq_of_lt (show k < 2 ^ 64 by omega), Nat.shiftLeft_eq, Nat.mul_mod, Nat.mod_mod, ← Nat.mul_mod]
theorem wb_and {a b : Nat} (ha : a < 2 ^ 64) (hb : b < 2 ^ 64) : lN a &&& lN b = lN (a &&& b) := by
  apply wb_inj
  rw [Int64.toBitVec_and, wb_tb, wb_tb, wb_tb]
  apply BitVec.eq_of_toNat_eq
  rw [BitVec.toNat_and, BitVec.toNat_ofNat, BitVec.toNat_ofNat, BitVec.toNat_ofNat, Nat.mod_eq_of_lt ha, Nat.mod_eq_of_lt hb, Nat.mod_eq_of_lt (Nat.and_lt_two_pow _ hb)]
theorem wb_or {a b : Nat} (ha : a < 2 ^ 64) (hb : b < 2 ^ 64) : lN a ||| lN b = lN (a ||| b) := by
  apply wb_inj
  rw [Int64.toBitVec_or, wb_tb, wb_tb, wb_tb]
  apply BitVec.eq_of_toNat_eq
  rw [BitVec.toNat_or, BitVec.toNat_ofNat, BitVec.toNat_ofNat, BitVec.toNat_ofNat, Nat.mod_eq_of_lt ha, Nat.mod_eq_of_lt hb, Nat.mod_eq_of_lt (Nat.or_lt_two_pow ha hb)]
theorem wb_mask {n k : Nat} (hn : n < 2 ^ 64) (hk : k < 64) : lN n &&& lN (2 ^ k - 1) = lN (n % 2 ^ k) := by
  rw [wb_and hn (by have := wb_lt2 hk; omega), Nat.and_two_pow_sub_one_eq_mod]
theorem wb_a1 {n : Nat} (hn : n < 2 ^ 64) : lN n &&& 1 = lN (n % 2) := wb_mask (k := 1) hn (by decide)
theorem wb_bit {n k : Nat} (hn : n < 2 ^ 64) (hk : k < 64) : ((lN n).toUInt64 >>> ((nI k).toInt64.toUInt64 &&& Int64.toUInt64 63)).toInt64 &&& 1 = lN (n / 2 ^ k % 2) := by
  rw [wb_shr hn hk, wb_a1 (Nat.lt_of_le_of_lt (Nat.div_le_self _ _) hn)]
theorem lN_eq64 {a b : Nat} (ha : a < 2 ^ 64) (hb : b < 2 ^ 64) : lN a = lN b ↔ a = b := by
  constructor
  · intro h
    have h1 := congrArg (fun x : Int64 => x.toBitVec.toNat) h
    simp only [wb_tn ha, wb_tn hb] at h1
    exact h1
  · intro h; rw [h]
theorem l_b0 {b : Bool} : lN b.toNat = 0 ↔ b = false := by cases b <;> decide
theorem l_b1 {b : Bool} : lN b.toNat = 1 ↔ b = true := by cases b <;> decide
theorem tb_mod2 (n k : Nat) : n / 2 ^ k % 2 = (n.testBit k).toNat := by
  rw [Nat.testBit_eq_decide_div_mod_eq]
  rcases Nat.mod_two_eq_zero_or_one (n / 2 ^ k) with h | h <;> simp [h]
/-- a bit by the shift without sign -/
theorem l_bu {n k : Nat} (hn : n < 2 ^ 64) (hk : k < 64) : ((lN n).toUInt64 >>> ((nI k).toInt64.toUInt64 &&& Int64.toUInt64 63)).toInt64 &&& 1 = lN (n.testBit k).toNat := by
  rw [wb_bit hn hk, tb_mod2]
/-- a bit by the shift with sign -/
theorem l_bs {n k : Nat} (hk : k < 64) : (lN n >>> ((nI k).toInt64 &&& 63)) &&& 1 = lN (n.testBit k).toNat := by
  rw [wb_c k hk]
  apply wb_inj
  apply BitVec.eq_of_getLsbD_eq
  intro i hi
  have e1 : (1 : Int64).toBitVec = 1#64 := rfl
  have e2 : (BitVec.ofNat 64 n).sshiftRight' ((lN k).toBitVec.smod 64) = (BitVec.ofNat 64 n).sshiftRight k := by
    rw [BitVec.sshiftRight_eq', wb_tb, wb_sm k hk, BitVec.toNat_ofNat, Nat.mod_eq_of_lt (by omega)]
  rw [Int64.toBitVec_and, e1, BitVec.getLsbD_and, Int64.toBitVec_shiftRight, wb_tb n, e2, wb_tb, BitVec.getLsbD_ofNat, BitVec.getLsbD_ofNat]
  by_cases h0 : i = 0
  · subst h0
    rw [BitVec.getLsbD_sshiftRight]
    have e4 : (BitVec.ofNat 64 n).getLsbD k = n.testBit k := by rw [BitVec.getLsbD_ofNat]; simp [hk]
    have e5 : k + 0 < 64 := hk
    rw [if_pos e5, Nat.add_zero, e4]
    cases n.testBit k <;> simp
  · rw [tb_one h0]
    cases n.testBit k
    · simp
    · simp [tb_one h0]
theorem l_andn (a b : Nat) : lN a &&& (lN b ^^^ (-1)) = lN (andn a b) := by
  apply wb_inj
  have e : (-1 : Int64).toBitVec = BitVec.allOnes 64 := by decide
  rw [Int64.toBitVec_and, Int64.toBitVec_xor, e, wb_tb, wb_tb, wb_tb]
  apply BitVec.eq_of_getLsbD_eq
  intro i hi
  rw [BitVec.getLsbD_and, BitVec.getLsbD_xor, BitVec.getLsbD_ofNat, BitVec.getLsbD_ofNat, BitVec.getLsbD_ofNat, BitVec.getLsbD_allOnes, andn_bit]
  simp [hi]
theorem l_or (a b : Nat) : lN a ||| lN b = lN (a ||| b) := fb_orL a b
theorem l_1 {y : Nat} (h : y < 64) : (1 : Int64) <<< ((nI y).toInt64 &&& 63) = lN (2 ^ y) := by
  have := wb_shl 1 h
  rw [Nat.one_mul] at this
  exact this
/-- a number with given bits -/
def mk (p : Nat → Bool) (n : Nat) : Nat := fld (fun t s => if p t then s ||| 2 ^ t else s) 0 n
theorem mk_s (p : Nat → Bool) (n : Nat) : mk p (n + 1) = if p n then mk p n ||| 2 ^ n else mk p n := rfl
theorem mk_bit (p : Nat → Bool) (j : Nat) : ∀ n, (mk p n).testBit j = true ↔ j < n ∧ p j = true
  | 0 => by
    constructor
    · intro h; simp [mk, fld] at h
    · rintro ⟨hi, -⟩; exact absurd hi (Nat.not_lt_zero _)
  | n + 1 => by
    rw [mk_s]
    split
    · rename_i e
      rw [tb_or2, Bool.or_eq_true, mk_bit p j n, decide_eq_true_eq]
      constructor
      · rintro (⟨a, b⟩ | a)
        · exact ⟨by omega, b⟩
        · subst a; exact ⟨by omega, e⟩
      · rintro ⟨a, b⟩
        by_cases q : j = n
        · exact Or.inr q
        · exact Or.inl ⟨by omega, b⟩
    · rename_i e
      rw [mk_bit p j n]
      constructor
      · rintro ⟨a, b⟩; exact ⟨by omega, b⟩
      · rintro ⟨a, b⟩
        by_cases q : j = n
        · subst q; exact absurd b e
        · exact ⟨by omega, b⟩
theorem mk_lt (p : Nat → Bool) (n : Nat) : mk p n < 2 ^ n := tb_lt (fun j hj => ((mk_bit p j n).mp hj).1)
theorem sw_tab : ∀ i, i < 6 → sw i = lN (mk (fun t => t.testBit i) 64) := by decide +kernel
def UN (a b t : Nat) : Prop := ∃ x y, x < 64 ∧ y < 64 ∧ a.testBit x = true ∧ b.testBit y = true ∧ t = x ||| y
theorem or64 {x y : Nat} (hx : x < 64) (hy : y < 64) : x ||| y < 64 := or_lt (k := 6) hx hy
noncomputable def unM (a b : Nat) : Nat := mk (fun t => cl (UN a b t)) 64
theorem UN.lt {a b t : Nat} (h : UN a b t) : t < 64 := by
  obtain ⟨x, y, hx, hy, -, -, rfl⟩ := h
  exact or64 hx hy
theorem unM_bit (a b t : Nat) : (unM a b).testBit t = true ↔ UN a b t := by
  unfold unM
  rw [mk_bit, cl_i]
  exact ⟨fun h => h.2, fun h => ⟨h.lt, h⟩⟩
theorem unM_of {a b M : Nat} (h : ∀ t, M.testBit t = true ↔ UN a b t) : M = unM a b := subm.eq (fun t ht => (unM_bit a b t).mpr ((h t).mp ht)) (fun t ht => (h t).mpr ((unM_bit a b t).mp ht))
theorem s_unions {a b : Nat} {K : Int64 → Prop} (hK : K (lN (unM a b))) : wp_X11_unions (lN a) (lN b) K := by
  unfold wp_X11_unions
  refine for_X11_unions_L6 _ _ _ (64) (fun i z => ∃ M, z = lN M ∧ ∀ t, M.testBit t = true ↔ ∃ x y, x < i ∧ y < 64 ∧ a.testBit x = true ∧ b.testBit y = true ∧ t = x ||| y) ?_ ?_ (0) _ _ rfl (Nat.zero_le _) (⟨0, rfl, fun t => ⟨fun h => by simp at h, fun ⟨x, y, hx, _⟩ => absurd hx (Nat.not_lt_zero _)⟩⟩)
  · rintro again i z hi ⟨M, rfl, hM⟩ hag
    unfold wp_X11_unions_L6
    try simp (disch := omega) only [k_0, k_1, k_2, k_3, k_4, k_6, k_7, k_10, k_11, k_12, k_13, k_14, k_16, k_32, k_36, k_40, k_41, k_42, k_43, k_49, k_64, k_80, k_96, k_97, k_100, k_109, k_110, k_127, k_128, k_146, k_147, k_160, k_2304, k_4608, k_13824, nI_add, pk_mul, pk_sub, nI_clamp, q_in, nI_ltI, nI_leI, nI_eq, forall_eq, e_shl, e_bit, e_b0, e_b1, e_bn, e_andn, fa_or, fa_and, e_m1, e_nneg]
    repeat (first | refine And.intro (fun hh => absurd hh (by omega)) (fun _ => ?_) | refine And.intro (fun _ => ?_) (fun hh => absurd hh (by omega)) | refine And.intro (by omega) ?_)
    refine for_X11_unions_L16 _ _ _ _ (64) (fun j z => ∃ M', z = lN M' ∧ ∀ t, M'.testBit t = true ↔ M.testBit t = true ∨ (a.testBit i = true ∧ ∃ y, y < j ∧ b.testBit y = true ∧ t = i ||| y)) ?_ ?_ (0) _ _ rfl (Nat.zero_le _) (⟨M, rfl, fun t => ⟨Or.inl, fun h => by rcases h with h | ⟨-, y, hy, -⟩; exact h; exact absurd hy (Nat.not_lt_zero _)⟩⟩)
    · rintro again2 j z hj ⟨M', rfl, hM'⟩ hag2
      unfold wp_X11_unions_L16
      rw [l_bs hi, l_bs hj, lgc, lgc, l_b1, l_b1]
      try simp (disch := omega) only [k_0, k_1, k_2, k_3, k_4, k_6, k_7, k_10, k_11, k_12, k_13, k_14, k_16, k_32, k_36, k_40, k_41, k_42, k_43, k_49, k_64, k_80, k_96, k_97, k_100, k_109, k_110, k_127, k_128, k_146, k_147, k_160, k_2304, k_4608, k_13824, nI_add, pk_mul, pk_sub, nI_clamp, q_in, nI_ltI, nI_leI, nI_eq, forall_eq, e_shl, e_bit, e_b0, e_b1, e_bn, e_andn, fa_or, fa_and, e_m1, e_nneg]
      repeat (first | refine And.intro (fun hh => absurd hh (by omega)) (fun _ => ?_) | refine And.intro (fun _ => ?_) (fun hh => absurd hh (by omega)) | refine And.intro (by omega) ?_)
      refine ⟨fun ha => hag _ ⟨M', rfl, fun t => ?_⟩, fun ha => ⟨fun hb => hag2 _ ⟨M', ?_, fun t => ?_⟩, fun hb => hag2 _ ⟨M' ||| 2 ^ (i ||| j), ?_, fun t => ?_⟩⟩⟩
      · rw [hM', hM]
        constructor
        · rintro (⟨x, y, h1, h2⟩ | ⟨h1, -⟩)
          · exact ⟨x, y, by omega, h2⟩
          · exact absurd h1 ha
        · rintro ⟨x, y, h1, h2, h3, h4⟩
          by_cases e : x = i
          · subst e; exact absurd h3 ha
          · exact Or.inl ⟨x, y, by omega, h2, h3, h4⟩
      · exact Int64.or_zero
      · rw [hM']
        constructor
        · rintro (h | ⟨h1, y, h2, h3⟩)
          · exact Or.inl h
          · exact Or.inr ⟨h1, y, by omega, h3⟩
        · rintro (h | ⟨h1, y, h2, h3, h4⟩)
          · exact Or.inl h
          · by_cases e : y = j
            · subst e; exact absurd h3 hb
            · exact Or.inr ⟨h1, y, by omega, h3, h4⟩
      · rw [l_1 (or64 hi hj), l_or]
      · rw [tb_or2, Bool.or_eq_true, hM', decide_eq_true_eq]
        constructor
        · rintro ((h | ⟨h1, y, h2, h3⟩) | h)
          · exact Or.inl h
          · exact Or.inr ⟨h1, y, by omega, h3⟩
          · exact Or.inr ⟨ha, j, by omega, hb, h⟩
        · rintro (h | ⟨h1, y, h2, h3, h4⟩)
          · exact Or.inl (Or.inl h)
          · by_cases e : y = j
            · subst e; exact Or.inr h4
            · exact Or.inl (Or.inr ⟨h1, y, by omega, h3, h4⟩)
    · rintro again2 z ⟨M', rfl, hM'⟩
      unfold wp_X11_unions_L16
      try simp (disch := omega) only [k_0, k_1, k_2, k_3, k_4, k_6, k_7, k_10, k_11, k_12, k_13, k_14, k_16, k_32, k_36, k_40, k_41, k_42, k_43, k_49, k_64, k_80, k_96, k_97, k_100, k_109, k_110, k_127, k_128, k_146, k_147, k_160, k_2304, k_4608, k_13824, nI_add, pk_mul, pk_sub, nI_clamp, q_in, nI_ltI, nI_leI, nI_eq, forall_eq, e_shl, e_bit, e_b0, e_b1, e_bn, e_andn, fa_or, fa_and, e_m1, e_nneg]
      repeat (first | refine And.intro (fun hh => absurd hh (by omega)) (fun _ => ?_) | refine And.intro (fun _ => ?_) (fun hh => absurd hh (by omega)) | refine And.intro (by omega) ?_)
      refine hag _ ⟨M', rfl, fun t => ?_⟩
      rw [hM', hM]
      constructor
      · rintro (⟨x, y, h1, h2⟩ | ⟨h1, y, h2, h3, h4⟩)
        · exact ⟨x, y, by omega, h2⟩
        · exact ⟨i, y, by omega, h2, h1, h3, h4⟩
      · rintro ⟨x, y, h1, h2, h3, h4, h5⟩
        by_cases e : x = i
        · subst e; exact Or.inr ⟨h3, y, h2, h4, h5⟩
        · exact Or.inl ⟨x, y, by omega, h2, h3, h4, h5⟩
  · rintro again z ⟨M, rfl, hM⟩
    unfold wp_X11_unions_L6
    try simp (disch := omega) only [k_0, k_1, k_2, k_3, k_4, k_6, k_7, k_10, k_11, k_12, k_13, k_14, k_16, k_32, k_36, k_40, k_41, k_42, k_43, k_49, k_64, k_80, k_96, k_97, k_100, k_109, k_110, k_127, k_128, k_146, k_147, k_160, k_2304, k_4608, k_13824, nI_add, pk_mul, pk_sub, nI_clamp, q_in, nI_ltI, nI_leI, nI_eq, forall_eq, e_shl, e_bit, e_b0, e_b1, e_bn, e_andn, fa_or, fa_and, e_m1, e_nneg]
    repeat (first | refine And.intro (fun hh => absurd hh (by omega)) (fun _ => ?_) | refine And.intro (fun _ => ?_) (fun hh => absurd hh (by omega)) | refine And.intro (by omega) ?_)
    rw [unM_of hM]
    exact hK
theorem mod_up (s i : Nat) : s % 2 ^ (i + 1) = if s.testBit i = true then s % 2 ^ i ||| 2 ^ i else s % 2 ^ i := by
  apply Nat.eq_of_testBit_eq
  intro j
  split
  · rename_i h
    rw [tb_or2, Nat.testBit_mod_two_pow, Nat.testBit_mod_two_pow]
    by_cases e : j = i
    · subst e; simp [h]
    · by_cases q : j < i
      · simp [q, show j < i + 1 by omega, e]
      · simp [q, show ¬ j < i + 1 by omega, e]
  · rename_i h
    rw [Nat.testBit_mod_two_pow, Nat.testBit_mod_two_pow]
    by_cases e : j = i
    · subst e; rw [tb_false h]; simp
    · by_cases q : j < i
      · simp [q, show j < i + 1 by omega]
      · simp [q, show ¬ j < i + 1 by omega]
theorem add_bit {t i : Nat} (h : t.testBit i = false) : t + 2 ^ i = t ||| 2 ^ i := by
  have h1 := Nat.div_add_mod t (2 ^ i)
  have h2 : t / 2 ^ i % 2 = 0 := by rw [tb_mod2, h]; rfl
  have hp := Nat.two_pow_pos i
  have hlt : t % 2 ^ i < 2 ^ i := Nat.mod_lt _ hp
  apply Nat.eq_of_testBit_eq
  intro j
  have e1 : t + 2 ^ i = 2 ^ i * (t / 2 ^ i + 1) + t % 2 ^ i := by rw [Nat.mul_add, Nat.mul_one]; omega
  rw [tb_or2, e1, Nat.testBit_two_pow_mul_add _ hlt]
  by_cases q : j < i
  · rw [if_pos q, Nat.testBit_mod_two_pow]
    simp [q, show ¬ j = i by omega]
  · rw [if_neg q]
    have e2 : t.testBit j = (t / 2 ^ i).testBit (j - i) := by
      rw [Nat.testBit_div_two_pow]
      congr 1
      omega
    rw [e2]
    generalize t / 2 ^ i = z at *
    by_cases e : j = i
    · subst e
      rw [Nat.sub_self, Nat.testBit_zero, Nat.testBit_zero]
      simp
      omega
    · obtain ⟨m, hm⟩ : ∃ m, j - i = m + 1 := ⟨j - i - 1, by omega⟩
      rw [hm, Nat.testBit_succ, Nat.testBit_succ, show (z + 1) / 2 = z / 2 by omega]
      simp [e]
theorem or_bit {t i : Nat} (h : t.testBit i = true) : t ||| 2 ^ i = t := by
  apply Nat.eq_of_testBit_eq
  intro j
  rw [tb_or2]
  by_cases e : j = i
  · subst e; simp [h]
  · simp [e]
theorem s_addLetters {a s : Nat} (ha : a < 2 ^ 64) (hs : s < 64) {K : Int64 → Prop} (hK : ∀ M, (∀ t, M.testBit t = true ↔ ∃ x, x < 64 ∧ a.testBit x = true ∧ t = x ||| s) → M < 2 ^ 64 → K (lN M)) : wp_X8_addLetters (lN a) (nI s) K := by
  unfold wp_X8_addLetters
  refine for_X8_addLetters_L5 _ _ (6) (fun i z => ∃ M, z = lN M ∧ M < 2 ^ 64 ∧ ∀ t, M.testBit t = true ↔ ∃ x, x < 64 ∧ a.testBit x = true ∧ t = x ||| s % 2 ^ i) ?_ ?_ (0) _ _ rfl (Nat.zero_le _) (⟨a, rfl, ha, fun t => ?_⟩)
  · rintro again i z hi ⟨M, rfl, hM64, hM⟩ hag
    have hi2 : 2 ^ i < 64 := Nat.lt_of_lt_of_le (pow_lt hi) (by decide)
    have hmu := mod_up s i
    unfold wp_X8_addLetters_L5
    try simp (disch := omega) only [k_0, k_1, k_2, k_3, k_4, k_6, k_7, k_10, k_11, k_12, k_13, k_14, k_16, k_32, k_36, k_40, k_41, k_42, k_43, k_49, k_64, k_80, k_96, k_97, k_100, k_109, k_110, k_127, k_128, k_146, k_147, k_160, k_2304, k_4608, k_13824, nI_add, pk_mul, pk_sub, nI_clamp, q_in, nI_ltI, nI_leI, nI_eq, forall_eq, e_shl, e_bit, e_b0, e_b1, e_bn, e_andn, fa_or, fa_and, e_m1, e_nneg]
    repeat (first | refine And.intro (fun hh => absurd hh (by omega)) (fun _ => ?_) | refine And.intro (fun _ => ?_) (fun hh => absurd hh (by omega)) | refine And.intro (by omega) ?_)
    rw [sw_tab i hi]
    refine ⟨fun hb => hag _ ⟨M, rfl, hM64, fun t => ?_⟩, fun hb => ⟨hi, hi, ?_⟩⟩
    · rw [hmu, if_neg (by rw [hb]; decide)]
      exact hM t
    · generalize hSW : mk (fun t => t.testBit i) 64 = SW
      have hsw : ∀ t, SW.testBit t = true ↔ t < 64 ∧ t.testBit i = true := fun t => by rw [← hSW]; exact mk_bit _ _ _
      rw [l_andn, wb_shl _ hi2, fb_andL, l_or]
      have bit : ∀ t, ((M &&& SW) ||| (andn M SW * 2 ^ 2 ^ i)).testBit t = true ↔ ∃ x, x < 64 ∧ a.testBit x = true ∧ t = x ||| (s % 2 ^ i ||| 2 ^ i) := by
        intro t
        rw [Nat.testBit_or, Bool.or_eq_true, Nat.testBit_and, Bool.and_eq_true, Nat.mul_comm, Nat.testBit_two_pow_mul, Bool.and_eq_true, decide_eq_true_eq, andn_bit, Bool.and_eq_true, Bool.not_eq_true']
        constructor
        · rintro (⟨h1, h2⟩ | ⟨h1, h2, h3⟩)
          · obtain ⟨x, g1, g2, g3⟩ := (hM t).mp h1
            refine ⟨x, g1, g2, ?_⟩
            rw [← Nat.or_assoc, ← g3]
            exact (or_bit ((hsw t).mp h2).2).symm
          · obtain ⟨x, g1, g2, g3⟩ := (hM _).mp h2
            have hlt := tb_of_lt hM64 h2
            have h4 : (t - 2 ^ i).testBit i = false := tb_false (fun q => by rw [(hsw _).mpr ⟨hlt, q⟩] at h3; cases h3)
            refine ⟨x, g1, g2, ?_⟩
            rw [← Nat.or_assoc, ← g3, ← add_bit h4]
            omega
        · rintro ⟨x, g1, g2, g3⟩
          rw [← Nat.or_assoc] at g3
          have hin : M.testBit (x ||| s % 2 ^ i) = true := (hM _).mpr ⟨x, g1, g2, rfl⟩
          have hlt := tb_of_lt hM64 hin
          generalize x ||| s % 2 ^ i = t0 at *
          cases hb0 : t0.testBit i with
          | true =>
            rw [or_bit hb0] at g3
            subst g3
            exact Or.inl ⟨hin, (hsw t).mpr ⟨hlt, hb0⟩⟩
          | false =>
            rw [← add_bit hb0] at g3
            subst g3
            refine Or.inr ⟨by omega, ?_, ?_⟩
            · rw [Nat.add_sub_cancel]; exact hin
            · rw [Nat.add_sub_cancel]
              exact tb_false (fun q => by rw [((hsw t0).mp q).2] at hb0; cases hb0)
      refine hag _ ⟨_, rfl, tb_lt (fun t ht => ?_), by rw [hmu, if_pos hb]; exact bit⟩
      obtain ⟨x, g1, g2, g3⟩ := (bit t).mp ht
      rw [g3]
      exact or64 g1 (or64 (Nat.lt_of_lt_of_le (Nat.mod_lt _ (Nat.two_pow_pos i)) (by omega)) hi2)
  · rintro again z ⟨M, rfl, hM64, hM⟩
    unfold wp_X8_addLetters_L5
    try simp (disch := omega) only [k_0, k_1, k_2, k_3, k_4, k_6, k_7, k_10, k_11, k_12, k_13, k_14, k_16, k_32, k_36, k_40, k_41, k_42, k_43, k_49, k_64, k_80, k_96, k_97, k_100, k_109, k_110, k_127, k_128, k_146, k_147, k_160, k_2304, k_4608, k_13824, nI_add, pk_mul, pk_sub, nI_clamp, q_in, nI_ltI, nI_leI, nI_eq, forall_eq, e_shl, e_bit, e_b0, e_b1, e_bn, e_andn, fa_or, fa_and, e_m1, e_nneg]
    repeat (first | refine And.intro (fun hh => absurd hh (by omega)) (fun _ => ?_) | refine And.intro (fun _ => ?_) (fun hh => absurd hh (by omega)) | refine And.intro (by omega) ?_)
    refine hK M (fun t => ?_) hM64
    have e : s % 2 ^ 6 = s := Nat.mod_eq_of_lt hs
    rw [e] at hM
    exact hM t
  · rw [Nat.pow_zero, Nat.mod_one]
    constructor
    · intro h; exact ⟨t, tb_of_lt ha h, h, by rw [Nat.or_zero]⟩
    · rintro ⟨x, -, h, e⟩; rw [e, Nat.or_zero]; exact h
theorem s_unite {a b : Nat} (ha : a < 2 ^ 64) (hb : b < 2 ^ 64) {K : Int64 → Prop} (hK : K (lN (unM a b))) : wp_X8_unite (lN a) (lN b) K := by
  unfold wp_X8_unite
  refine for_X8_unite_L6 _ _ _ (64) (fun i z => ∃ M, z = lN M ∧ ∀ t, M.testBit t = true ↔ ∃ x y, x < 64 ∧ y < i ∧ a.testBit x = true ∧ b.testBit y = true ∧ t = x ||| y) ?_ ?_ (0) _ _ rfl (Nat.zero_le _) (⟨0, rfl, fun t => ⟨fun h => by simp at h, fun ⟨x, y, _, hy, _⟩ => absurd hy (Nat.not_lt_zero _)⟩⟩)
  · rintro again i z hi ⟨M, rfl, hM⟩ hag
    unfold wp_X8_unite_L6
    rw [l_bu hb hi, lgc, l_b0]
    try simp (disch := omega) only [k_0, k_1, k_2, k_3, k_4, k_6, k_7, k_10, k_11, k_12, k_13, k_14, k_16, k_32, k_36, k_40, k_41, k_42, k_43, k_49, k_64, k_80, k_96, k_97, k_100, k_109, k_110, k_127, k_128, k_146, k_147, k_160, k_2304, k_4608, k_13824, nI_add, pk_mul, pk_sub, nI_clamp, q_in, nI_ltI, nI_leI, nI_eq, forall_eq, e_shl, e_bit, e_b0, e_b1, e_bn, e_andn, fa_or, fa_and, e_m1, e_nneg]
    repeat (first | refine And.intro (fun hh => absurd hh (by omega)) (fun _ => ?_) | refine And.intro (fun _ => ?_) (fun hh => absurd hh (by omega)) | refine And.intro (by omega) ?_)
    refine ⟨fun hz => hag _ ⟨M, rfl, fun t => ?_⟩, fun hz => s_addLetters ha hi (fun A hA _ => ?_)⟩
    · rw [hM]
      constructor
      · rintro ⟨x, y, h1, h2, h3⟩; exact ⟨x, y, h1, by omega, h3⟩
      · rintro ⟨x, y, h1, h2, h3, h4, h5⟩
        by_cases e : y = i
        · subst e; rw [hz] at h4; cases h4
        · exact ⟨x, y, h1, by omega, h3, h4, h5⟩
    · try simp (disch := omega) only [k_0, k_1, k_2, k_3, k_4, k_6, k_7, k_10, k_11, k_12, k_13, k_14, k_16, k_32, k_36, k_40, k_41, k_42, k_43, k_49, k_64, k_80, k_96, k_97, k_100, k_109, k_110, k_127, k_128, k_146, k_147, k_160, k_2304, k_4608, k_13824, nI_add, pk_mul, pk_sub, nI_clamp, q_in, nI_ltI, nI_leI, nI_eq, forall_eq, e_shl, e_bit, e_b0, e_b1, e_bn, e_andn, fa_or, fa_and, e_m1, e_nneg]
      refine hag _ ⟨M ||| A, l_or M A, fun t => ?_⟩
      rw [Nat.testBit_or, Bool.or_eq_true, hM, hA]
      constructor
      · rintro (⟨x, y, h1, h2, h3⟩ | ⟨x, h1, h2, h3⟩)
        · exact ⟨x, y, h1, by omega, h3⟩
        · exact ⟨x, i, h1, by omega, h2, hz, h3⟩
      · rintro ⟨x, y, h1, h2, h3, h4, h5⟩
        by_cases e : y = i
        · subst e; exact Or.inr ⟨x, h1, h3, h5⟩
        · exact Or.inl ⟨x, y, h1, by omega, h3, h4, h5⟩
  · rintro again z ⟨M, rfl, hM⟩
    unfold wp_X8_unite_L6
    try simp (disch := omega) only [k_0, k_1, k_2, k_3, k_4, k_6, k_7, k_10, k_11, k_12, k_13, k_14, k_16, k_32, k_36, k_40, k_41, k_42, k_43, k_49, k_64, k_80, k_96, k_97, k_100, k_109, k_110, k_127, k_128, k_146, k_147, k_160, k_2304, k_4608, k_13824, nI_add, pk_mul, pk_sub, nI_clamp, q_in, nI_ltI, nI_leI, nI_eq, forall_eq, e_shl, e_bit, e_b0, e_b1, e_bn, e_andn, fa_or, fa_and, e_m1, e_nneg]
    repeat (first | refine And.intro (fun hh => absurd hh (by omega)) (fun _ => ?_) | refine And.intro (fun _ => ?_) (fun hh => absurd hh (by omega)) | refine And.intro (by omega) ?_)
    rw [unM_of hM]
    exact hK
/-- all unions of sets of a kind -/
def GEN (a t : Nat) : Prop := ∀ C : Nat → Prop, C 0 → (∀ x s, x < 64 → a.testBit x = true → C s → C (s ||| x)) → C t
theorem GEN.zero (a : Nat) : GEN a 0 := fun _ h _ => h
theorem GEN.add {a t x : Nat} (h : GEN a t) (hx : x < 64) (hb : a.testBit x = true) : GEN a (t ||| x) := fun C h0 hs => hs x t hx hb (h C h0 hs)
theorem GEN.or {a s t : Nat} (hs : GEN a s) (ht : GEN a t) : GEN a (s ||| t) := by
  refine ht (fun t => GEN a (s ||| t)) (by rw [Nat.or_zero]; exact hs) (fun x r hx hb hr => ?_)
  rw [← Nat.or_assoc]
  exact hr.add hx hb
theorem GEN.lt {a t : Nat} (h : GEN a t) : t < 64 := h (fun t => t < 64) (by decide) (fun x s hx _ hs => or64 hs hx)
noncomputable def gnM (a : Nat) : Nat := mk (fun t => cl (GEN a t)) 64
theorem gnM_bit (a t : Nat) : (gnM a).testBit t = true ↔ GEN a t := by
  unfold gnM
  rw [mk_bit, cl_i]
  exact ⟨fun h => h.2, fun h => ⟨h.lt, h⟩⟩
theorem gnM_of {a M : Nat} (h : ∀ t, M.testBit t = true ↔ GEN a t) : M = gnM a := subm.eq (fun t ht => (gnM_bit a t).mpr ((h t).mp ht)) (fun t ht => (h t).mpr ((gnM_bit a t).mp ht))
theorem s_repeat {a : Nat} (ha : a < 2 ^ 64) {K : Int64 → Prop} (hK : K (lN (gnM a))) : wp_X8_repeat (lN a) K := by
  unfold wp_X8_repeat
  refine for_X8_repeat_L5 _ _ (64) (fun i z => ∃ M, z = lN M ∧ M < 2 ^ 64 ∧ M.testBit 0 = true ∧ (∀ t, M.testBit t = true → GEN a t) ∧ ∀ x s, x < i → a.testBit x = true → M.testBit s = true → M.testBit (s ||| x) = true) ?_ ?_ (0) _ _ rfl (Nat.zero_le _) (⟨1, rfl, by decide, by decide, fun t ht => ?_, fun x s hx => absurd hx (Nat.not_lt_zero _)⟩)
  · rintro again i z hi ⟨M, rfl, hM64, h0, h1, h2⟩ hag
    unfold wp_X8_repeat_L5
    rw [l_bu ha hi, lgc, l_b0]
    try simp (disch := omega) only [k_0, k_1, k_2, k_3, k_4, k_6, k_7, k_10, k_11, k_12, k_13, k_14, k_16, k_32, k_36, k_40, k_41, k_42, k_43, k_49, k_64, k_80, k_96, k_97, k_100, k_109, k_110, k_127, k_128, k_146, k_147, k_160, k_2304, k_4608, k_13824, nI_add, pk_mul, pk_sub, nI_clamp, q_in, nI_ltI, nI_leI, nI_eq, forall_eq, e_shl, e_bit, e_b0, e_b1, e_bn, e_andn, fa_or, fa_and, e_m1, e_nneg]
    repeat (first | refine And.intro (fun hh => absurd hh (by omega)) (fun _ => ?_) | refine And.intro (fun _ => ?_) (fun hh => absurd hh (by omega)) | refine And.intro (by omega) ?_)
    refine ⟨fun hz => hag _ ⟨M, rfl, hM64, h0, h1, fun x s hx hax hs => ?_⟩, fun hz => s_addLetters hM64 hi (fun A hA hA64 => ?_)⟩
    · by_cases e : x = i
      · subst e; rw [hz] at hax; cases hax
      · exact h2 x s (by omega) hax hs
    · try simp (disch := omega) only [k_0, k_1, k_2, k_3, k_4, k_6, k_7, k_10, k_11, k_12, k_13, k_14, k_16, k_32, k_36, k_40, k_41, k_42, k_43, k_49, k_64, k_80, k_96, k_97, k_100, k_109, k_110, k_127, k_128, k_146, k_147, k_160, k_2304, k_4608, k_13824, nI_add, pk_mul, pk_sub, nI_clamp, q_in, nI_ltI, nI_leI, nI_eq, forall_eq, e_shl, e_bit, e_b0, e_b1, e_bn, e_andn, fa_or, fa_and, e_m1, e_nneg]
      have hbit : ∀ t, (M ||| A).testBit t = true ↔ M.testBit t = true ∨ ∃ x, x < 64 ∧ M.testBit x = true ∧ t = x ||| i := fun t => by rw [Nat.testBit_or, Bool.or_eq_true, hA]
      refine hag _ ⟨M ||| A, l_or M A, or_lt hM64 hA64, (hbit 0).mpr (Or.inl h0), fun t ht => ?_, fun x s hx hax hs => ?_⟩
      · rcases (hbit t).mp ht with h | ⟨x, g1, g2, g3⟩
        · exact h1 t h
        · rw [g3]; exact (h1 x g2).add hi hz
      · rcases (hbit s).mp hs with h | ⟨y, g1, g2, g3⟩
        · by_cases e : x = i
          · subst e; exact (hbit _).mpr (Or.inr ⟨s, tb_of_lt hM64 h, h, rfl⟩)
          · exact (hbit _).mpr (Or.inl (h2 x s (by omega) hax h))
        · by_cases e : x = i
          · subst e
            refine (hbit _).mpr (Or.inr ⟨y, g1, g2, ?_⟩)
            rw [g3, Nat.or_assoc, Nat.or_self]
          · have h3 := h2 x y (by omega) hax g2
            refine (hbit _).mpr (Or.inr ⟨y ||| x, tb_of_lt hM64 h3, h3, ?_⟩)
            rw [g3, Nat.or_assoc, Nat.or_assoc, Nat.or_comm i x]
  · rintro again z ⟨M, rfl, hM64, h0, h1, h2⟩
    unfold wp_X8_repeat_L5
    try simp (disch := omega) only [k_0, k_1, k_2, k_3, k_4, k_6, k_7, k_10, k_11, k_12, k_13, k_14, k_16, k_32, k_36, k_40, k_41, k_42, k_43, k_49, k_64, k_80, k_96, k_97, k_100, k_109, k_110, k_127, k_128, k_146, k_147, k_160, k_2304, k_4608, k_13824, nI_add, pk_mul, pk_sub, nI_clamp, q_in, nI_ltI, nI_leI, nI_eq, forall_eq, e_shl, e_bit, e_b0, e_b1, e_bn, e_andn, fa_or, fa_and, e_m1, e_nneg]
    repeat (first | refine And.intro (fun hh => absurd hh (by omega)) (fun _ => ?_) | refine And.intro (fun _ => ?_) (fun hh => absurd hh (by omega)) | refine And.intro (by omega) ?_)
    rw [gnM_of (fun t => ⟨h1 t, fun h => h (fun t => M.testBit t = true) h0 (fun x s hx hax hs => h2 x s hx hax hs)⟩)] at *
    exact hK
  · have := tb_of_lt (n := 1) (k := 1) (by decide) ht
    rw [show t = 0 by omega]
    exact GEN.zero a
theorem s_closure {a : Nat} (ha : a < 2 ^ 64) {K : Int64 → Prop} (hK : K (lN (gnM a))) : wp_X11_closure (lN a) K := by
  unfold wp_X11_closure
  have e1 : lN a ||| 1 = lN (a ||| 1) := l_or a 1
  rw [e1]
  refine nm_e ?_
  refine lp_X11_closure_L7_of _ (fun z y => ∃ M O, z = lN M ∧ y = lN O ∧ M < 2 ^ 64 ∧ O < 2 ^ 64 ∧ M.testBit 0 = true ∧ subm a M ∧ (∀ t, M.testBit t = true → GEN a t) ∧ (O = M → ∀ s t, M.testBit s = true → M.testBit t = true → M.testBit (s ||| t) = true)) (fun z y => 2 * (2 ^ 64 - z.toBitVec.toNat) + (if y = z then 0 else 1)) ?_ _ _ (⟨a ||| 1, 0, rfl, rfl, or_lt ha (by decide), by decide, ?_, ?_, fun t ht => ?_, fun e => ?_⟩)
  · rintro again z y ⟨M, O, rfl, rfl, hM64, hO64, h0, h1, h2, h3⟩ hag
    unfold wp_X11_closure_L7
    rw [lgc, lN_eq64 hO64 hM64]
    refine ⟨fun e => ?_, fun e => s_unions ?_⟩
    · have h4 := h3 e
      rw [gnM_of (a := a) (M := M) (fun t => ⟨h2 t, fun h => h (fun t => M.testBit t = true) h0 (fun x s hx hax hs => h4 s x hs (h1 x hax))⟩)] at *
      exact hK
    · have hun : ∀ t, (unM M M).testBit t = true ↔ UN M M t := unM_bit M M
      have hsub : subm M (unM M M) := fun t ht => (hun t).mpr ⟨t, t, tb_of_lt hM64 ht, tb_of_lt hM64 ht, ht, ht, (Nat.or_self t).symm⟩
      have hlt : unM M M < 2 ^ 64 := mk_lt _ _
      have hle : M ≤ unM M M := by
        have e5 : M &&& unM M M = M := by
          apply Nat.eq_of_testBit_eq
          intro j
          rw [Nat.testBit_and]
          cases hj : M.testBit j with
          | true => rw [hsub j hj]; rfl
          | false => rfl
        have e7 := Nat.and_le_right (n := M) (m := unM M M)
        rw [e5] at e7
        exact e7
      refine hag _ _ ⟨unM M M, M, rfl, rfl, hlt, hM64, hsub 0 h0, fun x hx => hsub x (h1 x hx), fun t ht => ?_, fun e5 s t hs ht => ?_⟩ ?_
      · obtain ⟨x, y, -, -, g1, g2, rfl⟩ := (hun t).mp ht
        exact (h2 x g1).or (h2 y g2)
      · rw [← e5] at hs ht
        exact (hun _).mpr ⟨s, t, tb_of_lt hM64 hs, tb_of_lt hM64 ht, hs, ht, rfl⟩
      · have q1 : ¬ lN O = lN M := by rw [lN_eq64 hO64 hM64]; exact e
        rw [wb_tn hlt, wb_tn hM64, if_neg q1]
        by_cases e6 : M = unM M M
        · have q2 : lN M = lN (unM M M) := by rw [← e6]
          rw [if_pos q2, ← e6]; omega
        · split <;> omega
  · rw [Nat.testBit_or]; simp
  · intro j hj; rw [Nat.testBit_or, hj]; rfl
  · rw [Nat.testBit_or, Bool.or_eq_true] at ht
    rcases ht with h | h
    · have := (GEN.zero a).add (tb_of_lt ha h) h
      rw [Nat.zero_or] at this
      exact this
    · have := tb_of_lt (n := 1) (k := 1) (by decide) h
      rw [show t = 0 by omega]
      exact GEN.zero a
  · have : (a ||| 1).testBit 0 = true := by rw [Nat.testBit_or]; simp
    rw [← e] at this
    simp at this
theorem s_connSets {free : Nat → Int32} {fr : Nat → Nat} {k : Nat} (irr : ∀ a, ind fr a a = false) (hf : FA free fr) (hk : k ≤ 6) {K : Int64 → Prop} (hK : ∀ M, M < 2 ^ 64 → (∀ t, M.testBit t = true ↔ t < 2 ^ k ∧ con fr t = true) → K (lN M)) : wp_X0_connectedSets (nI k) free K := by
  have h64 := p2k hk
  unfold wp_X0_connectedSets
  refine for_X0_connectedSets_L4 _ _ _ (2 ^ k) (fun i z => z = lN (mk (fun t => con fr t) i)) ?_ ?_ (0) _ _ rfl (Nat.zero_le _) (rfl)
  · rintro again i z hi rfl hag
    unfold wp_X0_connectedSets_L4
    try simp (disch := omega) only [k_0, k_1, k_2, k_3, k_4, k_6, k_7, k_10, k_11, k_12, k_13, k_14, k_16, k_32, k_36, k_40, k_41, k_42, k_43, k_49, k_64, k_80, k_96, k_97, k_100, k_109, k_110, k_127, k_128, k_146, k_147, k_160, k_2304, k_4608, k_13824, nI_add, pk_mul, pk_sub, nI_clamp, q_in, nI_ltI, nI_leI, nI_eq, forall_eq, e_shl, e_bit, e_b0, e_b1, e_bn, e_andn, fa_or, fa_and, e_m1, e_nneg]
    repeat (first | refine And.intro (fun hh => absurd hh (by omega)) (fun _ => ?_) | refine And.intro (fun _ => ?_) (fun hh => absurd hh (by omega)) | refine And.intro (by omega) ?_)
    refine s_conn irr hf hk hi ?_
    rw [mk_s] at hag
    cases hc : con fr i with
    | false => rw [hc, if_neg (by decide)] at hag; exact br_t (by decide) (hag _ rfl)
    | true =>
      rw [hc, if_pos rfl] at hag
      refine br_f (by decide) ?_
      rw [l_1 (by omega), l_or]
      exact hag _ rfl
  · rintro again z rfl
    unfold wp_X0_connectedSets_L4
    try simp (disch := omega) only [k_0, k_1, k_2, k_3, k_4, k_6, k_7, k_10, k_11, k_12, k_13, k_14, k_16, k_32, k_36, k_40, k_41, k_42, k_43, k_49, k_64, k_80, k_96, k_97, k_100, k_109, k_110, k_127, k_128, k_146, k_147, k_160, k_2304, k_4608, k_13824, nI_add, pk_mul, pk_sub, nI_clamp, q_in, nI_ltI, nI_leI, nI_eq, forall_eq, e_shl, e_bit, e_b0, e_b1, e_bn, e_andn, fa_or, fa_and, e_m1, e_nneg]
    repeat (first | refine And.intro (fun hh => absurd hh (by omega)) (fun _ => ?_) | refine And.intro (fun _ => ?_) (fun hh => absurd hh (by omega)) | refine And.intro (by omega) ?_)
    exact hK _ (Nat.lt_of_lt_of_le (mk_lt _ _) (Nat.pow_le_pow_right (by decide) h64)) (fun t => mk_bit _ _ _)
