/-! states that words tell apart -/
theorem not_nI (m : Nat) : nI m ^^^ (-1) = nI (andn (2 ^ 32 - 1) m) := by
  rw [← q_andn]
  have e : nI (2 ^ 32 - 1) = -1 := by decide
  rw [e, Int32.neg_one_and]
theorem not_bit {m j : Nat} (hj : j < 32) : (andn (2 ^ 32 - 1) m).testBit j = !m.testBit j := by
  rw [andn_bit, Nat.testBit_two_pow_sub_one]
  simp [hj]
def SD (k n : Nat) (ar : Nat → Nat → Nat) (ac : Nat) (M : Nat → Nat → Bool) : Prop := ∀ p q, p < n → q < n → M p q = true → DD k ar ac p q
def CP (k n : Nat) (ar : Nat → Nat → Nat) (ac r : Nat) (M : Nat → Nat → Bool) : Prop := ∀ p q, p < n → q < n → DM k ar ac r p q → M p q = true
theorem s_areApart {ap : Nat → Int32} {n : Nat} {A : Nat → Nat} (hn : n ≤ 6) (hA : ∀ p, p < 6 → ap p = nI (A p)) {p q : Nat} (hp : p < n) (hq : q < n) {K : Int32 → Prop} (hK : K (bI ((A p).testBit q))) : wp_X5_areApart (nI n) ap (nI p) (nI q) K := by
  unfold wp_X5_areApart
  refine s_has5 hn hp (br_f (by decide) (s_has5 hn hq (br_f (by decide) ?_)))
  try simp (disch := omega) only [k_0, k_1, k_2, k_3, k_4, k_6, k_7, k_10, k_11, k_12, k_13, k_14, k_16, k_32, k_36, k_40, k_41, k_42, k_43, k_49, k_64, k_80, k_96, k_97, k_100, k_109, k_110, k_127, k_128, k_146, k_147, k_160, k_2304, k_4608, k_13824, nI_add, pk_mul, pk_sub, nI_clamp, q_in, nI_ltI, nI_leI, nI_eq, forall_eq, e_shl, e_bit, e_b0, e_b1, e_bn, e_andn, fa_or, fa_and, e_m1, e_nneg]
  rw [hA p (by omega)]
  try simp (disch := omega) only [k_0, k_1, k_2, k_3, k_4, k_6, k_7, k_10, k_11, k_12, k_13, k_14, k_16, k_32, k_36, k_40, k_41, k_42, k_43, k_49, k_64, k_80, k_96, k_97, k_100, k_109, k_110, k_127, k_128, k_146, k_147, k_160, k_2304, k_4608, k_13824, nI_add, pk_mul, pk_sub, nI_clamp, q_in, nI_ltI, nI_leI, nI_eq, forall_eq, e_shl, e_bit, e_b0, e_b1, e_bn, e_andn, fa_or, fa_and, e_m1, e_nneg]
  refine ⟨by omega, fun h => ?_, fun h => ?_⟩
  · rw [h] at hK; exact hK
  · rw [h] at hK; exact hK
theorem s_stepApart {ap arr : Nat → Int32} {k n : Nat} {ar : Nat → Nat → Nat} {A : Nat → Nat} (hk : k ≤ 6) (hn : n ≤ 6) (hA : ∀ p, p < 6 → ap p = nI (A p)) (hR : ∀ q x, q < n → x < 6 → arr (q * 6 + x) = nI (ar q x)) (har : ∀ q x, q < n → x < 6 → ar q x < n) {p q : Nat} (hp : p < n) (hq : q < n) {K : Int32 → Prop} (h1 : ∀ x, x < k → (A (ar p x)).testBit (ar q x) = true → K 1) (h0 : (∀ x, x < k → (A (ar p x)).testBit (ar q x) = false) → K 0) : wp_X5_stepApart (nI n) arr ap (nI p) (nI q) (nI k) K := by
  unfold wp_X5_stepApart
  refine for_X5_stepApart_L3 _ _ _ _ _ _ _ _ (k) (fun x => ∀ x', x' < x → (A (ar p x')).testBit (ar q x') = false) ?_ ?_ (0) _ rfl (Nat.zero_le _) (fun x' hx' => absurd hx' (Nat.not_lt_zero _))
  · intro again x hx hJ hag
    unfold wp_X5_stepApart_L3
    try simp (disch := omega) only [k_0, k_1, k_2, k_3, k_4, k_6, k_7, k_10, k_11, k_12, k_13, k_14, k_16, k_32, k_36, k_40, k_41, k_42, k_43, k_49, k_64, k_80, k_96, k_97, k_100, k_109, k_110, k_127, k_128, k_146, k_147, k_160, k_2304, k_4608, k_13824, nI_add, pk_mul, pk_sub, nI_clamp, q_in, nI_ltI, nI_leI, nI_eq, forall_eq, e_shl, e_bit, e_b0, e_b1, e_bn, e_andn, fa_or, fa_and, e_m1, e_nneg]
    repeat (first | refine And.intro (fun hh => absurd hh (by omega)) (fun _ => ?_) | refine And.intro (fun _ => ?_) (fun hh => absurd hh (by omega)) | refine And.intro (by omega) ?_)
    refine s_step hn hR hp (by omega) (s_step hn hR hq (by omega) (s_areApart hn hA (har p x hp (by omega)) (har q x hq (by omega)) ?_))
    cases hb : (A (ar p x)).testBit (ar q x) with
    | true => exact br_f (by decide) (h1 x hx hb)
    | false =>
      refine br_t (by decide) (hag (fun x' hx' => ?_))
      by_cases e : x' = x
      · subst e; exact hb
      · exact hJ x' (by omega)
  · intro again hJ
    unfold wp_X5_stepApart_L3
    try simp (disch := omega) only [k_0, k_1, k_2, k_3, k_4, k_6, k_7, k_10, k_11, k_12, k_13, k_14, k_16, k_32, k_36, k_40, k_41, k_42, k_43, k_49, k_64, k_80, k_96, k_97, k_100, k_109, k_110, k_127, k_128, k_146, k_147, k_160, k_2304, k_4608, k_13824, nI_add, pk_mul, pk_sub, nI_clamp, q_in, nI_ltI, nI_leI, nI_eq, forall_eq, e_shl, e_bit, e_b0, e_b1, e_bn, e_andn, fa_or, fa_and, e_m1, e_nneg]
    repeat (first | refine And.intro (fun hh => absurd hh (by omega)) (fun _ => ?_) | refine And.intro (fun _ => ?_) (fun hh => absurd hh (by omega)) | refine And.intro (by omega) ?_)
    exact h0 hJ
theorem s_tellApart {ap arr : Nat → Int32} {k n ac : Nat} {ar : Nat → Nat → Nat} (hk : k ≤ 6) (hn : n ≤ 6) (hR : ∀ q x, q < n → x < 6 → arr (q * 6 + x) = nI (ar q x)) (har : ∀ q x, q < n → x < 6 → ar q x < n) {K : (Nat → Int32) → Prop} (hK : ∀ (ap : Nat → Int32) (A : Nat → Nat), (∀ p, p < 6 → ap p = nI (A p)) → (∀ p q, p < n → q < n → ((A p).testBit q = true ↔ DD k ar ac p q)) → K ap) : wp_X5_tellApart (nI n) (nI ac) arr ap (nI k) K := by
  unfold wp_X5_tellApart
  refine for_X5_tellApart_L2 _ _ _ (6) (fun i a => ∀ p, p < i → a p = nI (if decide (p < n) && ac.testBit p then andn (2 ^ 32 - 1) ac else ac)) ?_ ?_ (0) _ _ rfl (Nat.zero_le _) (fun p hp => absurd hp (Nat.not_lt_zero _))
  · intro again i a hi hJ hag
    have put : ∀ z, z = nI (if decide (i < n) && ac.testBit i then andn (2 ^ 32 - 1) ac else ac) → again (nI (i + 1)) (upd a i z) := fun z hz => hag _ (fun p hp => by
      by_cases e : p = i
      · subst e; rw [pk_us, hz]
      · rw [pk_un e]; exact hJ p (by omega))
    unfold wp_X5_tellApart_L2
    try simp (disch := omega) only [k_0, k_1, k_2, k_3, k_4, k_6, k_7, k_10, k_11, k_12, k_13, k_14, k_16, k_32, k_36, k_40, k_41, k_42, k_43, k_49, k_64, k_80, k_96, k_97, k_100, k_109, k_110, k_127, k_128, k_146, k_147, k_160, k_2304, k_4608, k_13824, nI_add, pk_mul, pk_sub, nI_clamp, q_in, nI_ltI, nI_leI, nI_eq, forall_eq, e_shl, e_bit, e_b0, e_b1, e_bn, e_andn, fa_or, fa_and, e_m1, e_nneg]
    repeat (first | refine And.intro (fun hh => absurd hh (by omega)) (fun _ => ?_) | refine And.intro (fun _ => ?_) (fun hh => absurd hh (by omega)) | refine And.intro (by omega) ?_)
    refine s_accepts hn hi ?_
    cases hb : decide (i < n) && ac.testBit i with
    | false =>
      rw [hb, if_neg (by decide)] at put
      exact br_t (by decide) ⟨by omega, put _ rfl⟩
    | true =>
      rw [hb, if_pos rfl] at put
      exact br_f (by decide) ⟨by omega, put _ (not_nI ac)⟩
  intro again a0 hJ0
  unfold wp_X5_tellApart_L2
  try simp (disch := omega) only [k_0, k_1, k_2, k_3, k_4, k_6, k_7, k_10, k_11, k_12, k_13, k_14, k_16, k_32, k_36, k_40, k_41, k_42, k_43, k_49, k_64, k_80, k_96, k_97, k_100, k_109, k_110, k_127, k_128, k_146, k_147, k_160, k_2304, k_4608, k_13824, nI_add, pk_mul, pk_sub, nI_clamp, q_in, nI_ltI, nI_leI, nI_eq, forall_eq, e_shl, e_bit, e_b0, e_b1, e_bn, e_andn, fa_or, fa_and, e_m1, e_nneg]
  repeat (first | refine And.intro (fun hh => absurd hh (by omega)) (fun _ => ?_) | refine And.intro (fun _ => ?_) (fun hh => absurd hh (by omega)) | refine And.intro (by omega) ?_)
  refine for_X5_tellApart_L43 _ _ _ _ (n) (fun r a => ∃ A : Nat → Nat, (∀ p, p < 6 → a p = nI (A p)) ∧ SD k n ar ac (fun p q => (A p).testBit q) ∧ CP k n ar ac r (fun p q => (A p).testBit q)) ?_ ?_ (0) _ _ rfl (Nat.zero_le _) (⟨_, hJ0, fun p q hp hq h => ⟨0, DM_0.mpr ?_⟩, fun p q hp hq h => ?_⟩)
  · rintro again2 r a hr ⟨A, g1, g2, g3⟩ hag
    unfold wp_X5_tellApart_L43
    try simp (disch := omega) only [k_0, k_1, k_2, k_3, k_4, k_6, k_7, k_10, k_11, k_12, k_13, k_14, k_16, k_32, k_36, k_40, k_41, k_42, k_43, k_49, k_64, k_80, k_96, k_97, k_100, k_109, k_110, k_127, k_128, k_146, k_147, k_160, k_2304, k_4608, k_13824, nI_add, pk_mul, pk_sub, nI_clamp, q_in, nI_ltI, nI_leI, nI_eq, forall_eq, e_shl, e_bit, e_b0, e_b1, e_bn, e_andn, fa_or, fa_and, e_m1, e_nneg]
    repeat (first | refine And.intro (fun hh => absurd hh (by omega)) (fun _ => ?_) | refine And.intro (fun _ => ?_) (fun hh => absurd hh (by omega)) | refine And.intro (by omega) ?_)
    refine for_X5_tellApart_L53 _ _ _ _ (n) (fun p a => ∃ A : Nat → Nat, (∀ p, p < 6 → a p = nI (A p)) ∧ SD k n ar ac (fun p q => (A p).testBit q) ∧ CP k n ar ac r (fun p q => (A p).testBit q) ∧ ∀ p' q', p' < p → q' < n → DM k ar ac (r + 1) p' q' → (A p').testBit q' = true) ?_ ?_ (0) _ _ rfl (Nat.zero_le _) (⟨A, g1, g2, g3, fun p' q' hp' => absurd hp' (Nat.not_lt_zero _)⟩)
    · rintro again3 p a hp ⟨A, g1, g2, g3, g4⟩ hag3
      unfold wp_X5_tellApart_L53
      try simp (disch := omega) only [k_0, k_1, k_2, k_3, k_4, k_6, k_7, k_10, k_11, k_12, k_13, k_14, k_16, k_32, k_36, k_40, k_41, k_42, k_43, k_49, k_64, k_80, k_96, k_97, k_100, k_109, k_110, k_127, k_128, k_146, k_147, k_160, k_2304, k_4608, k_13824, nI_add, pk_mul, pk_sub, nI_clamp, q_in, nI_ltI, nI_leI, nI_eq, forall_eq, e_shl, e_bit, e_b0, e_b1, e_bn, e_andn, fa_or, fa_and, e_m1, e_nneg]
      repeat (first | refine And.intro (fun hh => absurd hh (by omega)) (fun _ => ?_) | refine And.intro (fun _ => ?_) (fun hh => absurd hh (by omega)) | refine And.intro (by omega) ?_)
      refine for_X5_tellApart_L70 _ _ _ _ _ (n) (fun q a => ∃ A : Nat → Nat, (∀ p, p < 6 → a p = nI (A p)) ∧ SD k n ar ac (fun p q => (A p).testBit q) ∧ CP k n ar ac r (fun p q => (A p).testBit q) ∧ (∀ p' q', p' < p → q' < n → DM k ar ac (r + 1) p' q' → (A p').testBit q' = true) ∧ ∀ q', q' < q → DM k ar ac (r + 1) p q' → (A p).testBit q' = true) ?_ ?_ (0) _ _ rfl (Nat.zero_le _) (⟨A, g1, g2, g3, g4, fun q' hq' => absurd hq' (Nat.not_lt_zero _)⟩)
      · rintro again4 q a hq ⟨A, g1, g2, g3, g4, g5⟩ hag4
        unfold wp_X5_tellApart_L70
        try simp (disch := omega) only [k_0, k_1, k_2, k_3, k_4, k_6, k_7, k_10, k_11, k_12, k_13, k_14, k_16, k_32, k_36, k_40, k_41, k_42, k_43, k_49, k_64, k_80, k_96, k_97, k_100, k_109, k_110, k_127, k_128, k_146, k_147, k_160, k_2304, k_4608, k_13824, nI_add, pk_mul, pk_sub, nI_clamp, q_in, nI_ltI, nI_leI, nI_eq, forall_eq, e_shl, e_bit, e_b0, e_b1, e_bn, e_andn, fa_or, fa_and, e_m1, e_nneg]
        repeat (first | refine And.intro (fun hh => absurd hh (by omega)) (fun _ => ?_) | refine And.intro (fun _ => ?_) (fun hh => absurd hh (by omega)) | refine And.intro (by omega) ?_)
        refine s_stepApart hk hn g1 hR har hp hq (fun x hx hb => br_f (by decide) ⟨by omega, by omega, ?_⟩) (fun hno => br_t (by decide) (hag4 _ ⟨A, g1, g2, g3, g4, fun q' hq' hd => ?_⟩))
        · rw [g1 p (by omega)]
          try simp (disch := omega) only [k_0, k_1, k_2, k_3, k_4, k_6, k_7, k_10, k_11, k_12, k_13, k_14, k_16, k_32, k_36, k_40, k_41, k_42, k_43, k_49, k_64, k_80, k_96, k_97, k_100, k_109, k_110, k_127, k_128, k_146, k_147, k_160, k_2304, k_4608, k_13824, nI_add, pk_mul, pk_sub, nI_clamp, q_in, nI_ltI, nI_leI, nI_eq, forall_eq, e_shl, e_bit, e_b0, e_b1, e_bn, e_andn, fa_or, fa_and, e_m1, e_nneg]
          have hbit : ∀ p' q', ((if p' = p then A p ||| 2 ^ q else A p').testBit q' = true) ↔ ((A p').testBit q' = true ∨ (p' = p ∧ q' = q)) := by
            intro p' q'
            by_cases e : p' = p
            · rw [if_pos e, tb_or2, Bool.or_eq_true, decide_eq_true_eq, e]; simp
            · rw [if_neg e]; simp [e]
          refine hag4 _ ⟨fun p' => if p' = p then A p ||| 2 ^ q else A p', fun p' hp' => ?_, fun p' q' hp' hq' hb' => ?_, fun p' q' hp' hq' hd => ?_, fun p' q' hp' hq' hd => ?_, fun q' hq' hd => ?_⟩
          · show upd _ _ _ _ = nI (if p' = p then A p ||| 2 ^ q else A p')
            by_cases e : p' = p
            · subst e; rw [pk_us, if_pos rfl]
            · rw [pk_un e, if_neg e]; exact g1 p' hp'
          · rcases (hbit p' q').mp hb' with h | ⟨h1, h2⟩
            · exact g2 p' q' hp' hq' h
            · rw [h1, h2]
              exact DD_step hx (g2 _ _ (har p x hp (by omega)) (har q x hq (by omega)) hb)
          · exact (hbit p' q').mpr (Or.inl (g3 p' q' hp' hq' hd))
          · exact (hbit p' q').mpr (Or.inl (g4 p' q' hp' hq' hd))
          · refine (hbit p q').mpr ?_
            by_cases e : q' = q
            · exact Or.inr ⟨rfl, e⟩
            · exact Or.inl (g5 q' (by omega) hd)
        · by_cases e : q' = q
          · subst e
            rcases DM_s.mp hd with h | ⟨x, hx, h⟩
            · exact g3 p q' hp hq h
            · have := g3 _ _ (har p x hp (by omega)) (har q' x hq (by omega)) h
              have h2 := hno x hx
              rw [show (A (ar p x)).testBit (ar q' x) = true from this] at h2
              cases h2
          · exact g5 q' (by omega) hd
      · rintro again4 a ⟨A, g1, g2, g3, g4, g5⟩
        unfold wp_X5_tellApart_L70
        try simp (disch := omega) only [k_0, k_1, k_2, k_3, k_4, k_6, k_7, k_10, k_11, k_12, k_13, k_14, k_16, k_32, k_36, k_40, k_41, k_42, k_43, k_49, k_64, k_80, k_96, k_97, k_100, k_109, k_110, k_127, k_128, k_146, k_147, k_160, k_2304, k_4608, k_13824, nI_add, pk_mul, pk_sub, nI_clamp, q_in, nI_ltI, nI_leI, nI_eq, forall_eq, e_shl, e_bit, e_b0, e_b1, e_bn, e_andn, fa_or, fa_and, e_m1, e_nneg]
        repeat (first | refine And.intro (fun hh => absurd hh (by omega)) (fun _ => ?_) | refine And.intro (fun _ => ?_) (fun hh => absurd hh (by omega)) | refine And.intro (by omega) ?_)
        refine hag3 _ ⟨A, g1, g2, g3, fun p' q' hp' hq' hd => ?_⟩
        by_cases e : p' = p
        · subst e; exact g5 q' hq' hd
        · exact g4 p' q' (by omega) hq' hd
    · rintro again3 a ⟨A, g1, g2, g3, g4⟩
      unfold wp_X5_tellApart_L53
      try simp (disch := omega) only [k_0, k_1, k_2, k_3, k_4, k_6, k_7, k_10, k_11, k_12, k_13, k_14, k_16, k_32, k_36, k_40, k_41, k_42, k_43, k_49, k_64, k_80, k_96, k_97, k_100, k_109, k_110, k_127, k_128, k_146, k_147, k_160, k_2304, k_4608, k_13824, nI_add, pk_mul, pk_sub, nI_clamp, q_in, nI_ltI, nI_leI, nI_eq, forall_eq, e_shl, e_bit, e_b0, e_b1, e_bn, e_andn, fa_or, fa_and, e_m1, e_nneg]
      repeat (first | refine And.intro (fun hh => absurd hh (by omega)) (fun _ => ?_) | refine And.intro (fun _ => ?_) (fun hh => absurd hh (by omega)) | refine And.intro (by omega) ?_)
      exact hag _ ⟨A, g1, g2, fun p q hp hq hd => g4 p q hp hq hd⟩
  · rintro again2 a ⟨A, g1, g2, g3⟩
    unfold wp_X5_tellApart_L43
    try simp (disch := omega) only [k_0, k_1, k_2, k_3, k_4, k_6, k_7, k_10, k_11, k_12, k_13, k_14, k_16, k_32, k_36, k_40, k_41, k_42, k_43, k_49, k_64, k_80, k_96, k_97, k_100, k_109, k_110, k_127, k_128, k_146, k_147, k_160, k_2304, k_4608, k_13824, nI_add, pk_mul, pk_sub, nI_clamp, q_in, nI_ltI, nI_leI, nI_eq, forall_eq, e_shl, e_bit, e_b0, e_b1, e_bn, e_andn, fa_or, fa_and, e_m1, e_nneg]
    repeat (first | refine And.intro (fun hh => absurd hh (by omega)) (fun _ => ?_) | refine And.intro (fun _ => ?_) (fun hh => absurd hh (by omega)) | refine And.intro (by omega) ?_)
    exact hK _ A g1 (fun p q hp hq => ⟨g2 p q hp hq, fun h => g3 p q hp hq (moore hk har p q hp hq h)⟩)
  · have h' : (if (decide (p < n) && ac.testBit p) = true then andn (2 ^ 32 - 1) ac else ac).testBit q = true := h
    rw [decide_eq_true hp, Bool.true_and] at h'
    split at h'
    · rename_i e
      rw [not_bit (by omega)] at h'
      rw [e]
      cases hb : ac.testBit q with
      | true => rw [hb] at h'; cases h'
      | false => decide
    · rename_i e
      rw [h', tb_false e]
      decide
  · rw [DM_0] at h
    show (if (decide (p < n) && ac.testBit p) = true then andn (2 ^ 32 - 1) ac else ac).testBit q = true
    rw [decide_eq_true hp, Bool.true_and]
    split
    · rename_i e
      rw [not_bit (by omega)]
      rw [e] at h
      cases hb : ac.testBit q with
      | true => rw [hb] at h; exact absurd rfl h
      | false => rfl
    · rename_i e
      rw [tb_false e] at h
      cases hb : ac.testBit q with
      | true => rfl
      | false => rw [hb] at h; exact absurd rfl h
theorem s_findApart {v ia : Nat → Int32} {k n ac : Nat} {ar : Nat → Nat → Nat} (hv0 : v 0 = nI k) (hac0 : v 146 = nI ac) (hk : k ≤ 6) (hn : n ≤ 6) (hA : ∀ q x, q < n → x < 6 → v (110 + 6 * q + x) = nI (ar q x)) (h6 : ∀ j, j < 36 → ∃ t, t < 6 ∧ v (110 + j) = nI t) (har : ∀ q x, q < n → x < 6 → ar q x < n) {K : (Nat → Int32) → Prop} (hK : ∀ (ia : Nat → Int32) (M : Nat → Bool), (∀ j, j < 36 → ia j = bI (M j)) → (∀ p q, p < n → q < n → (M (6 * p + q) = true ↔ DD k ar ac p q)) → K ia) : wp_X11_findApart v ia K := by
  unfold wp_X11_findApart
  refine for_X11_findApart_L2 _ _ (36) (fun i a => ∀ j, j < i → a j = bI (ac.testBit (j / 6) != ac.testBit (j % 6))) ?_ ?_ (0) _ _ rfl (Nat.zero_le _) (fun p hp => absurd hp (Nat.not_lt_zero _))
  · intro again i a hi hJ hag
    have put : ∀ z, z = bI (ac.testBit (i / 6) != ac.testBit (i % 6)) → again (nI (i + 1)) (upd a i z) := fun z hz => hag _ (fun p hp => by
      by_cases e : p = i
      · subst e; rw [pk_us, hz]
      · rw [pk_un e]; exact hJ p (by omega))
    have e1 : nI i - nI i / 6 * 6 = nI (i % 6) := pk_rem (d := 6) (by omega) (by decide) (by decide)
    have e2 : nI i / 6 = nI (i / 6) := pk_div (d := 6) (by omega) (by decide) (by decide)
    unfold wp_X11_findApart_L2
    rw [vb_0, vb_1, e1, e2]
    try simp (disch := omega) only [k_0, k_1, k_2, k_3, k_4, k_6, k_7, k_10, k_11, k_12, k_13, k_14, k_16, k_32, k_36, k_40, k_41, k_42, k_43, k_49, k_64, k_80, k_96, k_97, k_100, k_109, k_110, k_127, k_128, k_146, k_147, k_160, k_2304, k_4608, k_13824, nI_add, pk_mul, pk_sub, nI_clamp, q_in, nI_ltI, nI_leI, nI_eq, forall_eq, e_shl, e_bit, e_b0, e_b1, e_bn, e_andn, fa_or, fa_and, e_m1, e_nneg]
    rw [hac0]
    try simp (disch := omega) only [k_0, k_1, k_2, k_3, k_4, k_6, k_7, k_10, k_11, k_12, k_13, k_14, k_16, k_32, k_36, k_40, k_41, k_42, k_43, k_49, k_64, k_80, k_96, k_97, k_100, k_109, k_110, k_127, k_128, k_146, k_147, k_160, k_2304, k_4608, k_13824, nI_add, pk_mul, pk_sub, nI_clamp, q_in, nI_ltI, nI_leI, nI_eq, forall_eq, e_shl, e_bit, e_b0, e_b1, e_bn, e_andn, fa_or, fa_and, e_m1, e_nneg]
    repeat (first | refine And.intro (fun hh => absurd hh (by omega)) (fun _ => ?_) | refine And.intro (fun _ => ?_) (fun hh => absurd hh (by omega)) | refine And.intro (by omega) ?_)
    refine ⟨fun h => ⟨by omega, put _ ?_⟩, fun h => ⟨by omega, put _ ?_⟩⟩
    · cases h1 : ac.testBit (i / 6) <;> cases h2 : ac.testBit (i % 6) <;> rw [h1, h2] at h <;> first | rfl | exact absurd h (by decide)
    · cases h1 : ac.testBit (i / 6) <;> cases h2 : ac.testBit (i % 6) <;> rw [h1, h2] at h <;> first | rfl | exact absurd rfl h
  intro again a0 hJ0
  unfold wp_X11_findApart_L2
  try simp (disch := omega) only [k_0, k_1, k_2, k_3, k_4, k_6, k_7, k_10, k_11, k_12, k_13, k_14, k_16, k_32, k_36, k_40, k_41, k_42, k_43, k_49, k_64, k_80, k_96, k_97, k_100, k_109, k_110, k_127, k_128, k_146, k_147, k_160, k_2304, k_4608, k_13824, nI_add, pk_mul, pk_sub, nI_clamp, q_in, nI_ltI, nI_leI, nI_eq, forall_eq, e_shl, e_bit, e_b0, e_b1, e_bn, e_andn, fa_or, fa_and, e_m1, e_nneg]
  repeat (first | refine And.intro (fun hh => absurd hh (by omega)) (fun _ => ?_) | refine And.intro (fun _ => ?_) (fun hh => absurd hh (by omega)) | refine And.intro (by omega) ?_)
  refine for_X11_findApart_L60 _ _ (36) (fun r a => ∃ M : Nat → Bool, (∀ j, j < 36 → a j = bI (M j)) ∧ SD k n ar ac (fun p q => M (6 * p + q)) ∧ CP k n ar ac r (fun p q => M (6 * p + q))) ?_ ?_ (0) _ _ rfl (Nat.zero_le _) (⟨_, hJ0, fun p q hp hq h => ⟨0, DM_0.mpr ?_⟩, fun p q hp hq h => ?_⟩)
  · rintro again2 r a hr ⟨M, g1, g2, g3⟩ hag
    unfold wp_X11_findApart_L60
    try simp (disch := omega) only [k_0, k_1, k_2, k_3, k_4, k_6, k_7, k_10, k_11, k_12, k_13, k_14, k_16, k_32, k_36, k_40, k_41, k_42, k_43, k_49, k_64, k_80, k_96, k_97, k_100, k_109, k_110, k_127, k_128, k_146, k_147, k_160, k_2304, k_4608, k_13824, nI_add, pk_mul, pk_sub, nI_clamp, q_in, nI_ltI, nI_leI, nI_eq, forall_eq, e_shl, e_bit, e_b0, e_b1, e_bn, e_andn, fa_or, fa_and, e_m1, e_nneg]
    repeat (first | refine And.intro (fun hh => absurd hh (by omega)) (fun _ => ?_) | refine And.intro (fun _ => ?_) (fun hh => absurd hh (by omega)) | refine And.intro (by omega) ?_)
    refine for_X11_findApart_L68 _ _ (36) (fun i a => ∃ M : Nat → Bool, (∀ j, j < 36 → a j = bI (M j)) ∧ SD k n ar ac (fun p q => M (6 * p + q)) ∧ CP k n ar ac r (fun p q => M (6 * p + q)) ∧ ∀ p q, p < n → q < n → 6 * p + q < i → DM k ar ac (r + 1) p q → M (6 * p + q) = true) ?_ ?_ (0) _ _ rfl (Nat.zero_le _) (⟨M, g1, g2, g3, fun p q _ _ h => absurd h (Nat.not_lt_zero _)⟩)
    · rintro again3 i a hi ⟨M, g1, g2, g3, g4⟩ hag3
      have e1 : nI i - nI i / 6 * 6 = nI (i % 6) := pk_rem (d := 6) (by omega) (by decide) (by decide)
      have e2 : nI i / 6 = nI (i / 6) := pk_div (d := 6) (by omega) (by decide) (by decide)
      unfold wp_X11_findApart_L68
      try simp (disch := omega) only [k_0, k_1, k_2, k_3, k_4, k_6, k_7, k_10, k_11, k_12, k_13, k_14, k_16, k_32, k_36, k_40, k_41, k_42, k_43, k_49, k_64, k_80, k_96, k_97, k_100, k_109, k_110, k_127, k_128, k_146, k_147, k_160, k_2304, k_4608, k_13824, nI_add, pk_mul, pk_sub, nI_clamp, q_in, nI_ltI, nI_leI, nI_eq, forall_eq, e_shl, e_bit, e_b0, e_b1, e_bn, e_andn, fa_or, fa_and, e_m1, e_nneg]
      repeat (first | refine And.intro (fun hh => absurd hh (by omega)) (fun _ => ?_) | refine And.intro (fun _ => ?_) (fun hh => absurd hh (by omega)) | refine And.intro (by omega) ?_)
      refine for_X11_findApart_L76 _ _ _ (k) (fun x a => ∃ M' : Nat → Bool, (∀ j, j < 36 → a j = bI (M' j)) ∧ (∀ j, M j = true → M' j = true) ∧ (∀ j, j ≠ i → M' j = M j) ∧ SD k n ar ac (fun p q => M' (6 * p + q)) ∧ ∀ p q, p < n → q < n → 6 * p + q = i → ∀ x', x' < x → DM k ar ac r (ar p x') (ar q x') → M' i = true) ?_ ?_ (0) _ _ rfl (Nat.zero_le _) (⟨M, g1, fun _ h => h, fun _ _ => rfl, g2, fun p q _ _ _ x' hx' => absurd hx' (Nat.not_lt_zero _)⟩)
      · rintro again4 x a hx ⟨M', k1, k2, k3, k4, k5⟩ hag4
        unfold wp_X11_findApart_L76
        rw [vb_0, vb_1, e1, e2]
        try simp (disch := omega) only [k_0, k_1, k_2, k_3, k_4, k_6, k_7, k_10, k_11, k_12, k_13, k_14, k_16, k_32, k_36, k_40, k_41, k_42, k_43, k_49, k_64, k_80, k_96, k_97, k_100, k_109, k_110, k_127, k_128, k_146, k_147, k_160, k_2304, k_4608, k_13824, nI_add, pk_mul, pk_sub, nI_clamp, q_in, nI_ltI, nI_leI, nI_eq, forall_eq, e_shl, e_bit, e_b0, e_b1, e_bn, e_andn, fa_or, fa_and, e_m1, e_nneg]
        rw [hv0]
        try simp (disch := omega) only [k_0, k_1, k_2, k_3, k_4, k_6, k_7, k_10, k_11, k_12, k_13, k_14, k_16, k_32, k_36, k_40, k_41, k_42, k_43, k_49, k_64, k_80, k_96, k_97, k_100, k_109, k_110, k_127, k_128, k_146, k_147, k_160, k_2304, k_4608, k_13824, nI_add, pk_mul, pk_sub, nI_clamp, q_in, nI_ltI, nI_leI, nI_eq, forall_eq, e_shl, e_bit, e_b0, e_b1, e_bn, e_andn, fa_or, fa_and, e_m1, e_nneg]
        repeat (first | refine And.intro (fun hh => absurd hh (by omega)) (fun _ => ?_) | refine And.intro (fun _ => ?_) (fun hh => absurd hh (by omega)) | refine And.intro (by omega) ?_)
        rw [k1 i hi]
        cases hMi : M' i with
        | true =>
          refine br_f' (by decide) ⟨by omega, hag4 _ ⟨M', fun j hj => ?_, k2, k3, k4, fun p q _ _ _ x' _ _ => hMi⟩⟩
          by_cases e : j = i
          · subst e; rw [pk_us, hMi]; rfl
          · rw [pk_un e]; exact k1 j hj
        | false =>
          refine br_t' (by decide) ?_
          obtain ⟨t1, ht1, f1⟩ := h6 (6 * (i / 6) + x) (by omega)
          obtain ⟨t2, ht2, f2⟩ := h6 (6 * (i % 6) + x) (by omega)
          rw [← Nat.add_assoc] at f1 f2
          unfold wp_X11_arrow
          try simp (disch := omega) only [k_0, k_1, k_2, k_3, k_4, k_6, k_7, k_10, k_11, k_12, k_13, k_14, k_16, k_32, k_36, k_40, k_41, k_42, k_43, k_49, k_64, k_80, k_96, k_97, k_100, k_109, k_110, k_127, k_128, k_146, k_147, k_160, k_2304, k_4608, k_13824, nI_add, pk_mul, pk_sub, nI_clamp, q_in, nI_ltI, nI_leI, nI_eq, forall_eq, e_shl, e_bit, e_b0, e_b1, e_bn, e_andn, fa_or, fa_and, e_m1, e_nneg]
          rw [f1, f2]
          try simp (disch := omega) only [k_0, k_1, k_2, k_3, k_4, k_6, k_7, k_10, k_11, k_12, k_13, k_14, k_16, k_32, k_36, k_40, k_41, k_42, k_43, k_49, k_64, k_80, k_96, k_97, k_100, k_109, k_110, k_127, k_128, k_146, k_147, k_160, k_2304, k_4608, k_13824, nI_add, pk_mul, pk_sub, nI_clamp, q_in, nI_ltI, nI_leI, nI_eq, forall_eq, e_shl, e_bit, e_b0, e_b1, e_bn, e_andn, fa_or, fa_and, e_m1, e_nneg]
          repeat (first | refine And.intro (fun hh => absurd hh (by omega)) (fun _ => ?_) | refine And.intro (fun _ => ?_) (fun hh => absurd hh (by omega)) | refine And.intro (by omega) ?_)
          rw [k1 (6 * t1 + t2) (by omega)]
          have act : ∀ p q, p < n → q < n → 6 * p + q = i → ar p x = t1 ∧ ar q x = t2 := by
            intro p q hp hq e
            have p1 := har p x hp (by omega)
            have p2 := har q x hq (by omega)
            have c1 := hA p x hp (by omega)
            have c2 := hA q x hq (by omega)
            rw [show i / 6 = p by omega] at f1
            rw [show i % 6 = q by omega] at f2
            rw [f1] at c1
            rw [f2] at c2
            exact ⟨((nI_eq (by omega) (by omega)).mp c1).symm, ((nI_eq (by omega) (by omega)).mp c2).symm⟩
          cases hMt : M' (6 * t1 + t2) with
          | false =>
            refine br_t (by decide) ⟨by omega, hag4 _ ⟨M', fun j hj => ?_, k2, k3, k4, fun p q hp hq e x' hx' hd => ?_⟩⟩
            · by_cases e : j = i
              · subst e; rw [pk_us, hMi]; rfl
              · rw [pk_un e]; exact k1 j hj
            · by_cases ex : x' = x
              · subst ex
                obtain ⟨c1, c2⟩ := act p q hp hq e
                have h9 := g3 _ _ (har p x' hp (by omega)) (har q x' hq (by omega)) hd
                rw [c1, c2] at h9
                rw [k2 _ h9] at hMt
                cases hMt
              · exact k5 p q hp hq e x' (by omega) hd
          | true =>
            refine br_f (by decide) ⟨by omega, hag4 _ ⟨fun j => M' j || decide (j = i), fun j hj => ?_, fun j hj => ?_, fun j hj => ?_, fun p q hp hq hb => ?_, fun p q _ _ _ x' _ _ => ?_⟩⟩
            · show upd _ _ _ _ = bI (M' j || decide (j = i))
              by_cases e : j = i
              · subst e; rw [pk_us, decide_eq_true rfl, Bool.or_true]; rfl
              · rw [pk_un e, k1 j hj, decide_eq_false e, Bool.or_false]
            · show (M' j || decide (j = i)) = true
              rw [k2 j hj]; rfl
            · show (M' j || decide (j = i)) = M j
              rw [decide_eq_false hj, Bool.or_false]; exact k3 j hj
            · have hb' : (M' (6 * p + q) || decide (6 * p + q = i)) = true := hb
              rw [Bool.or_eq_true, decide_eq_true_eq] at hb'
              rcases hb' with h | h
              · exact k4 p q hp hq h
              · obtain ⟨c1, c2⟩ := act p q hp hq h
                refine DD_step hx ?_
                have p1 := har p x hp (by omega)
                have p2 := har q x hq (by omega)
                rw [c1] at p1 ⊢
                rw [c2] at p2 ⊢
                exact k4 _ _ p1 p2 hMt
            · show (M' i || decide (i = i)) = true
              simp
      · rintro again4 a ⟨M', k1, k2, k3, k4, k5⟩
        unfold wp_X11_findApart_L76
        try simp (disch := omega) only [k_0, k_1, k_2, k_3, k_4, k_6, k_7, k_10, k_11, k_12, k_13, k_14, k_16, k_32, k_36, k_40, k_41, k_42, k_43, k_49, k_64, k_80, k_96, k_97, k_100, k_109, k_110, k_127, k_128, k_146, k_147, k_160, k_2304, k_4608, k_13824, nI_add, pk_mul, pk_sub, nI_clamp, q_in, nI_ltI, nI_leI, nI_eq, forall_eq, e_shl, e_bit, e_b0, e_b1, e_bn, e_andn, fa_or, fa_and, e_m1, e_nneg]
        rw [hv0]
        try simp (disch := omega) only [k_0, k_1, k_2, k_3, k_4, k_6, k_7, k_10, k_11, k_12, k_13, k_14, k_16, k_32, k_36, k_40, k_41, k_42, k_43, k_49, k_64, k_80, k_96, k_97, k_100, k_109, k_110, k_127, k_128, k_146, k_147, k_160, k_2304, k_4608, k_13824, nI_add, pk_mul, pk_sub, nI_clamp, q_in, nI_ltI, nI_leI, nI_eq, forall_eq, e_shl, e_bit, e_b0, e_b1, e_bn, e_andn, fa_or, fa_and, e_m1, e_nneg]
        repeat (first | refine And.intro (fun hh => absurd hh (by omega)) (fun _ => ?_) | refine And.intro (fun _ => ?_) (fun hh => absurd hh (by omega)) | refine And.intro (by omega) ?_)
        refine hag3 _ ⟨M', k1, k4, fun p q hp hq hd => k2 _ (g3 p q hp hq hd), fun p q hp hq hlt hd => ?_⟩
        by_cases e : 6 * p + q = i
        · rcases DM_s.mp hd with h | ⟨x, hx, h⟩
          · exact k2 _ (g3 p q hp hq h)
          · rw [e]; exact k5 p q hp hq e x hx h
        · exact k2 _ (g4 p q hp hq (by omega) hd)
    · rintro again3 a ⟨M, g1, g2, g3, g4⟩
      unfold wp_X11_findApart_L68
      try simp (disch := omega) only [k_0, k_1, k_2, k_3, k_4, k_6, k_7, k_10, k_11, k_12, k_13, k_14, k_16, k_32, k_36, k_40, k_41, k_42, k_43, k_49, k_64, k_80, k_96, k_97, k_100, k_109, k_110, k_127, k_128, k_146, k_147, k_160, k_2304, k_4608, k_13824, nI_add, pk_mul, pk_sub, nI_clamp, q_in, nI_ltI, nI_leI, nI_eq, forall_eq, e_shl, e_bit, e_b0, e_b1, e_bn, e_andn, fa_or, fa_and, e_m1, e_nneg]
      repeat (first | refine And.intro (fun hh => absurd hh (by omega)) (fun _ => ?_) | refine And.intro (fun _ => ?_) (fun hh => absurd hh (by omega)) | refine And.intro (by omega) ?_)
      exact hag _ ⟨M, g1, g2, fun p q hp hq hd => g4 p q hp hq (by omega) hd⟩
  · rintro again2 a ⟨M, g1, g2, g3⟩
    unfold wp_X11_findApart_L60
    try simp (disch := omega) only [k_0, k_1, k_2, k_3, k_4, k_6, k_7, k_10, k_11, k_12, k_13, k_14, k_16, k_32, k_36, k_40, k_41, k_42, k_43, k_49, k_64, k_80, k_96, k_97, k_100, k_109, k_110, k_127, k_128, k_146, k_147, k_160, k_2304, k_4608, k_13824, nI_add, pk_mul, pk_sub, nI_clamp, q_in, nI_ltI, nI_leI, nI_eq, forall_eq, e_shl, e_bit, e_b0, e_b1, e_bn, e_andn, fa_or, fa_and, e_m1, e_nneg]
    repeat (first | refine And.intro (fun hh => absurd hh (by omega)) (fun _ => ?_) | refine And.intro (fun _ => ?_) (fun hh => absurd hh (by omega)) | refine And.intro (by omega) ?_)
    exact hK _ M g1 (fun p q hp hq => ⟨g2 p q hp hq, fun h => g3 p q hp hq ((moore hk har p q hp hq h).mono (by omega))⟩)
  · have h' : (ac.testBit ((6 * p + q) / 6) != ac.testBit ((6 * p + q) % 6)) = true := h
    rw [show (6 * p + q) / 6 = p by omega, show (6 * p + q) % 6 = q by omega] at h'
    simpa using h'
  · rw [DM_0] at h
    show (ac.testBit ((6 * p + q) / 6) != ac.testBit ((6 * p + q) % 6)) = true
    rw [show (6 * p + q) / 6 = p by omega, show (6 * p + q) % 6 = q by omega]
    simpa using h
def CLO (fr : Nat → Nat) (k n : Nat) (ar : Nat → Nat → Nat) (ac : Nat) : Prop := ∀ q, q < n → RS k ar q → ∀ x y, x < y → y < k → ind fr x y = true → ¬ DD k ar ac (ar (ar q x) y) (ar (ar q y) x)
theorem s_endsAlike {ap arr free : Nat → Int32} {fr : Nat → Nat} {k n ac : Nat} {ar : Nat → Nat → Nat} {A : Nat → Nat} (hf : FA free fr) (hk : k ≤ 6) (hn : n ≤ 6) (hA : ∀ p, p < 6 → ap p = nI (A p)) (hM : ∀ p q, p < n → q < n → ((A p).testBit q = true ↔ DD k ar ac p q)) (hR : ∀ q x, q < n → x < 6 → arr (q * 6 + x) = nI (ar q x)) (har : ∀ q x, q < n → x < 6 → ar q x < n) {q : Nat} (hq : q < n) {K : Int32 → Prop} (h1 : (∀ x y, x < y → y < k → ind fr x y = true → ¬ DD k ar ac (ar (ar q x) y) (ar (ar q y) x)) → K 1) (h0 : (¬ ∀ x y, x < y → y < k → ind fr x y = true → ¬ DD k ar ac (ar (ar q x) y) (ar (ar q y) x)) → K 0) : wp_X5_endsAlike (nI n) arr ap (nI k) free (nI q) K := by
  unfold wp_X5_endsAlike
  refine for_X5_endsAlike_L2 _ _ _ _ _ _ _ _ (k) (fun x => ∀ x' y, x' < x → x' < y → y < k → ind fr x' y = true → ¬ DD k ar ac (ar (ar q x') y) (ar (ar q y) x')) ?_ ?_ (0) _ rfl (Nat.zero_le _) (fun x' y hx' => absurd hx' (Nat.not_lt_zero _))
  · intro again x hx hJ hag
    unfold wp_X5_endsAlike_L2
    try simp (disch := omega) only [k_0, k_1, k_2, k_3, k_4, k_6, k_7, k_10, k_11, k_12, k_13, k_14, k_16, k_32, k_36, k_40, k_41, k_42, k_43, k_49, k_64, k_80, k_96, k_97, k_100, k_109, k_110, k_127, k_128, k_146, k_147, k_160, k_2304, k_4608, k_13824, nI_add, pk_mul, pk_sub, nI_clamp, q_in, nI_ltI, nI_leI, nI_eq, forall_eq, e_shl, e_bit, e_b0, e_b1, e_bn, e_andn, fa_or, fa_and, e_m1, e_nneg]
    repeat (first | refine And.intro (fun hh => absurd hh (by omega)) (fun _ => ?_) | refine And.intro (fun _ => ?_) (fun hh => absurd hh (by omega)) | refine And.intro (by omega) ?_)
    refine for_X5_endsAlike_L15 _ _ _ _ _ _ _ _ _ (k) (fun y => x < y ∧ ∀ y', x < y' → y' < y → ind fr x y' = true → ¬ DD k ar ac (ar (ar q x) y') (ar (ar q y') x)) ?_ ?_ (x + 1) _ rfl (by omega) (⟨by omega, fun y' h3 h4 => by omega⟩)
    · rintro again2 y hy ⟨hxy, hJ2⟩ hag2
      have a1 := har q x hq (by omega)
      have a2 := har q y hq (by omega)
      have next : (ind fr x y = true → ¬ DD k ar ac (ar (ar q x) y) (ar (ar q y) x)) → again2 (nI (y + 1)) := fun h => hag2 ⟨by omega, fun y' h3 h4 => by
        by_cases e : y' = y
        · subst e; exact h
        · exact hJ2 y' h3 (by omega)⟩
      unfold wp_X5_endsAlike_L15
      try simp (disch := omega) only [k_0, k_1, k_2, k_3, k_4, k_6, k_7, k_10, k_11, k_12, k_13, k_14, k_16, k_32, k_36, k_40, k_41, k_42, k_43, k_49, k_64, k_80, k_96, k_97, k_100, k_109, k_110, k_127, k_128, k_146, k_147, k_160, k_2304, k_4608, k_13824, nI_add, pk_mul, pk_sub, nI_clamp, q_in, nI_ltI, nI_leI, nI_eq, forall_eq, e_shl, e_bit, e_b0, e_b1, e_bn, e_andn, fa_or, fa_and, e_m1, e_nneg]
      repeat (first | refine And.intro (fun hh => absurd hh (by omega)) (fun _ => ?_) | refine And.intro (fun _ => ?_) (fun hh => absurd hh (by omega)) | refine And.intro (by omega) ?_)
      refine s_areFree hf hk (by omega) hy ?_
      cases hi : ind fr x y with
      | false => exact br_t (by decide) (next (fun h => by rw [hi] at h; cases h))
      | true =>
        refine br_f (by decide) (s_stepTwice hn hR har hq (by omega) (by omega) (s_stepTwice hn hR har hq (by omega) (by omega) (s_areApart hn hA (har _ y a1 (by omega)) (har _ x a2 (by omega)) ?_)))
        have hm := hM _ _ (har _ y a1 (by omega)) (har _ x a2 (by omega))
        cases hb : (A (ar (ar q x) y)).testBit (ar (ar q y) x) with
        | false => exact br_t (by decide) (next (fun _ h => by rw [hm.mpr h] at hb; cases hb))
        | true => exact br_f (by decide) (h0 (fun h => h x y hxy hy hi (hm.mp hb)))
    · rintro again2 ⟨hxy, hJ2⟩
      unfold wp_X5_endsAlike_L15
      try simp (disch := omega) only [k_0, k_1, k_2, k_3, k_4, k_6, k_7, k_10, k_11, k_12, k_13, k_14, k_16, k_32, k_36, k_40, k_41, k_42, k_43, k_49, k_64, k_80, k_96, k_97, k_100, k_109, k_110, k_127, k_128, k_146, k_147, k_160, k_2304, k_4608, k_13824, nI_add, pk_mul, pk_sub, nI_clamp, q_in, nI_ltI, nI_leI, nI_eq, forall_eq, e_shl, e_bit, e_b0, e_b1, e_bn, e_andn, fa_or, fa_and, e_m1, e_nneg]
      repeat (first | refine And.intro (fun hh => absurd hh (by omega)) (fun _ => ?_) | refine And.intro (fun _ => ?_) (fun hh => absurd hh (by omega)) | refine And.intro (by omega) ?_)
      refine hag (fun x' y hx' h3 h4 => ?_)
      by_cases e : x' = x
      · subst e; exact hJ2 y h3 h4
      · exact hJ x' y (by omega) h3 h4
  · intro again hJ
    unfold wp_X5_endsAlike_L2
    try simp (disch := omega) only [k_0, k_1, k_2, k_3, k_4, k_6, k_7, k_10, k_11, k_12, k_13, k_14, k_16, k_32, k_36, k_40, k_41, k_42, k_43, k_49, k_64, k_80, k_96, k_97, k_100, k_109, k_110, k_127, k_128, k_146, k_147, k_160, k_2304, k_4608, k_13824, nI_add, pk_mul, pk_sub, nI_clamp, q_in, nI_ltI, nI_leI, nI_eq, forall_eq, e_shl, e_bit, e_b0, e_b1, e_bn, e_andn, fa_or, fa_and, e_m1, e_nneg]
    repeat (first | refine And.intro (fun hh => absurd hh (by omega)) (fun _ => ?_) | refine And.intro (fun _ => ?_) (fun hh => absurd hh (by omega)) | refine And.intro (by omega) ?_)
    exact h1 (fun x y h3 h4 => hJ x y (by omega) h3 h4)
theorem s_isClosed {ap arr free : Nat → Int32} {fr : Nat → Nat} {k n ac : Nat} {ar : Nat → Nat → Nat} (hf : FA free fr) (hk : k ≤ 6) (hn1 : 1 ≤ n) (hn : n ≤ 6) (hR : ∀ q x, q < n → x < 6 → arr (q * 6 + x) = nI (ar q x)) (har : ∀ q x, q < n → x < 6 → ar q x < n) {K : Int32 → (Nat → Int32) → Prop} (hK : ∀ ap, K (bI (cl (CLO fr k n ar ac))) ap) : wp_X5_isClosed (nI n) (nI ac) arr ap (nI k) free K := by
  unfold wp_X5_isClosed
  refine s_findReached hk hn1 hn hR har (fun M hMr => s_tellApart hk hn hR har (fun ap A hA hM => ?_))
  refine for_X5_isClosed_L19 _ _ _ _ _ _ _ _ (n) (fun q => ∀ q', q' < q → RS k ar q' → ∀ x y, x < y → y < k → ind fr x y = true → ¬ DD k ar ac (ar (ar q' x) y) (ar (ar q' y) x)) ?_ ?_ (0) _ rfl (Nat.zero_le _) (fun q' hq' => absurd hq' (Nat.not_lt_zero _))
  · intro again q hq hJ hag
    have next : (RS k ar q → ∀ x y, x < y → y < k → ind fr x y = true → ¬ DD k ar ac (ar (ar q x) y) (ar (ar q y) x)) → again (nI (q + 1)) := fun h => hag (fun q' hq' => by
      by_cases e : q' = q
      · subst e; exact h
      · exact hJ q' (by omega))
    unfold wp_X5_isClosed_L19
    try simp (disch := omega) only [k_0, k_1, k_2, k_3, k_4, k_6, k_7, k_10, k_11, k_12, k_13, k_14, k_16, k_32, k_36, k_40, k_41, k_42, k_43, k_49, k_64, k_80, k_96, k_97, k_100, k_109, k_110, k_127, k_128, k_146, k_147, k_160, k_2304, k_4608, k_13824, nI_add, pk_mul, pk_sub, nI_clamp, q_in, nI_ltI, nI_leI, nI_eq, forall_eq, e_shl, e_bit, e_b0, e_b1, e_bn, e_andn, fa_or, fa_and, e_m1, e_nneg]
    repeat (first | refine And.intro (fun hh => absurd hh (by omega)) (fun _ => ?_) | refine And.intro (fun _ => ?_) (fun hh => absurd hh (by omega)) | refine And.intro (by omega) ?_)
    refine ⟨fun hb => next (fun h => by rw [(hMr q).mpr h] at hb; cases hb), fun hb => ?_⟩
    refine s_endsAlike hf hk hn hA hM hR har hq (fun h => br_f' (by decide) (next (fun _ => h))) (fun h => br_t' (by decide) ?_)
    rw [cl_f (fun hc => h (hc q hq ((hMr q).mp hb)))] at hK
    exact hK _
  · intro again hJ
    unfold wp_X5_isClosed_L19
    try simp (disch := omega) only [k_0, k_1, k_2, k_3, k_4, k_6, k_7, k_10, k_11, k_12, k_13, k_14, k_16, k_32, k_36, k_40, k_41, k_42, k_43, k_49, k_64, k_80, k_96, k_97, k_100, k_109, k_110, k_127, k_128, k_146, k_147, k_160, k_2304, k_4608, k_13824, nI_add, pk_mul, pk_sub, nI_clamp, q_in, nI_ltI, nI_leI, nI_eq, forall_eq, e_shl, e_bit, e_b0, e_b1, e_bn, e_andn, fa_or, fa_and, e_m1, e_nneg]
    repeat (first | refine And.intro (fun hh => absurd hh (by omega)) (fun _ => ?_) | refine And.intro (fun _ => ?_) (fun hh => absurd hh (by omega)) | refine And.intro (by omega) ?_)
    rw [cl_t (show CLO fr k n ar ac from hJ)] at hK
    exact hK _
theorem s_isClosedR {v ia : Nat → Int32} {fr : Nat → Nat} {k n ac : Nat} {ar : Nat → Nat → Nat} (sym : ∀ a b, ind fr a b = ind fr b a) (hv0 : v 0 = nI k) (hn0 : v 109 = nI n) (hac0 : v 146 = nI ac) (hf : FV v fr) (hk : k ≤ 6) (hn1 : 1 ≤ n) (hn : n ≤ 6) (hA : ∀ q x, q < n → x < 6 → v (110 + 6 * q + x) = nI (ar q x)) (h6 : ∀ j, j < 36 → ∃ t, t < 6 ∧ v (110 + j) = nI t) (har : ∀ q x, q < n → x < 6 → ar q x < n) {K : Int32 → (Nat → Int32) → Prop} (hK : ∀ ia, K (bI (cl (CLO fr k n ar ac))) ia) : wp_X11_isClosed v ia K := by
  unfold wp_X11_isClosed
  refine s_findApart hv0 hac0 hk hn hA h6 har (fun ia M hI hM => s_reachedR hv0 hn0 hk hn1 hn hA har (fun R hRr => ?_))
  refine for_X11_isClosed_L13 _ _ _ _ (n) (fun q z => ∃ b, z = bI b ∧ (b = true ↔ ∀ q', q' < q → RS k ar q' → ∀ x y, x < y → y < k → ind fr x y = true → ¬ DD k ar ac (ar (ar q' x) y) (ar (ar q' y) x))) ?_ ?_ (0) _ _ rfl (Nat.zero_le _) (⟨true, rfl, fun _ q' hq' => absurd hq' (Nat.not_lt_zero _), fun _ => rfl⟩)
  · rintro again q z hq ⟨b, rfl, hb⟩ hag
    unfold wp_X11_isClosed_L13
    try simp (disch := omega) only [k_0, k_1, k_2, k_3, k_4, k_6, k_7, k_10, k_11, k_12, k_13, k_14, k_16, k_32, k_36, k_40, k_41, k_42, k_43, k_49, k_64, k_80, k_96, k_97, k_100, k_109, k_110, k_127, k_128, k_146, k_147, k_160, k_2304, k_4608, k_13824, nI_add, pk_mul, pk_sub, nI_clamp, q_in, nI_ltI, nI_leI, nI_eq, forall_eq, e_shl, e_bit, e_b0, e_b1, e_bn, e_andn, fa_or, fa_and, e_m1, e_nneg]
    rw [hn0]
    try simp (disch := omega) only [k_0, k_1, k_2, k_3, k_4, k_6, k_7, k_10, k_11, k_12, k_13, k_14, k_16, k_32, k_36, k_40, k_41, k_42, k_43, k_49, k_64, k_80, k_96, k_97, k_100, k_109, k_110, k_127, k_128, k_146, k_147, k_160, k_2304, k_4608, k_13824, nI_add, pk_mul, pk_sub, nI_clamp, q_in, nI_ltI, nI_leI, nI_eq, forall_eq, e_shl, e_bit, e_b0, e_b1, e_bn, e_andn, fa_or, fa_and, e_m1, e_nneg]
    repeat (first | refine And.intro (fun hh => absurd hh (by omega)) (fun _ => ?_) | refine And.intro (fun _ => ?_) (fun hh => absurd hh (by omega)) | refine And.intro (by omega) ?_)
    refine for_X11_isClosed_L27 _ _ _ _ _ (k) (fun y z => ∃ b', z = bI b' ∧ (b' = true ↔ b = true ∧ (RS k ar q → ∀ x y', x < y' → y' < y → ind fr x y' = true → ¬ DD k ar ac (ar (ar q x) y') (ar (ar q y') x)))) ?_ ?_ (0) _ _ rfl (Nat.zero_le _) (⟨b, rfl, fun h => ⟨h, fun _ x y' _ hy' => absurd hy' (Nat.not_lt_zero _)⟩, fun h => h.1⟩)
    · rintro again2 y z hy ⟨b', rfl, hb'⟩ hag2
      unfold wp_X11_isClosed_L27
      try simp (disch := omega) only [k_0, k_1, k_2, k_3, k_4, k_6, k_7, k_10, k_11, k_12, k_13, k_14, k_16, k_32, k_36, k_40, k_41, k_42, k_43, k_49, k_64, k_80, k_96, k_97, k_100, k_109, k_110, k_127, k_128, k_146, k_147, k_160, k_2304, k_4608, k_13824, nI_add, pk_mul, pk_sub, nI_clamp, q_in, nI_ltI, nI_leI, nI_eq, forall_eq, e_shl, e_bit, e_b0, e_b1, e_bn, e_andn, fa_or, fa_and, e_m1, e_nneg]
      rw [hv0]
      try simp (disch := omega) only [k_0, k_1, k_2, k_3, k_4, k_6, k_7, k_10, k_11, k_12, k_13, k_14, k_16, k_32, k_36, k_40, k_41, k_42, k_43, k_49, k_64, k_80, k_96, k_97, k_100, k_109, k_110, k_127, k_128, k_146, k_147, k_160, k_2304, k_4608, k_13824, nI_add, pk_mul, pk_sub, nI_clamp, q_in, nI_ltI, nI_leI, nI_eq, forall_eq, e_shl, e_bit, e_b0, e_b1, e_bn, e_andn, fa_or, fa_and, e_m1, e_nneg]
      repeat (first | refine And.intro (fun hh => absurd hh (by omega)) (fun _ => ?_) | refine And.intro (fun _ => ?_) (fun hh => absurd hh (by omega)) | refine And.intro (by omega) ?_)
      refine for_X11_isClosed_L41 _ _ _ _ _ _ (y) (fun x z => ∃ b'', z = bI b'' ∧ (b'' = true ↔ b' = true ∧ (RS k ar q → ∀ x', x' < x → ind fr x' y = true → ¬ DD k ar ac (ar (ar q x') y) (ar (ar q y) x')))) ?_ ?_ (0) _ _ rfl (Nat.zero_le _) (⟨b', rfl, fun h => ⟨h, fun _ x' hx' => absurd hx' (Nat.not_lt_zero _)⟩, fun h => h.1⟩)
      · rintro again3 x z hx ⟨b'', rfl, hb''⟩ hag3
        have a1 := har q y hq (by omega)
        have a2 := har q x hq (by omega)
        have a3 := har _ x a1 (by omega)
        have a4 := har _ y a2 (by omega)
        have hm := hM _ _ a3 a4
        have next : ∀ c, (c = true ↔ (RS k ar q → ind fr x y = true → ¬ DD k ar ac (ar (ar q x) y) (ar (ar q y) x))) → b'' = true → again3 (bI c) (nI (x + 1)) := fun c hc hbt => hag3 _ ⟨c, rfl, fun h => ⟨(hb''.mp hbt).1, fun hR x' hx' => by
          by_cases e : x' = x
          · subst e; exact hc.mp h hR
          · exact (hb''.mp hbt).2 hR x' (by omega)⟩, fun h => hc.mpr (fun hR => h.2 hR x (by omega))⟩
        unfold wp_X11_isClosed_L41
        try simp (disch := omega) only [k_0, k_1, k_2, k_3, k_4, k_6, k_7, k_10, k_11, k_12, k_13, k_14, k_16, k_32, k_36, k_40, k_41, k_42, k_43, k_49, k_64, k_80, k_96, k_97, k_100, k_109, k_110, k_127, k_128, k_146, k_147, k_160, k_2304, k_4608, k_13824, nI_add, pk_mul, pk_sub, nI_clamp, q_in, nI_ltI, nI_leI, nI_eq, forall_eq, e_shl, e_bit, e_b0, e_b1, e_bn, e_andn, fa_or, fa_and, e_m1, e_nneg]
        repeat (first | refine And.intro (fun hh => absurd hh (by omega)) (fun _ => ?_) | refine And.intro (fun _ => ?_) (fun hh => absurd hh (by omega)) | refine And.intro (by omega) ?_)
        refine s_arrow hn hA hq (by omega) (s_arrow hn hA a1 (by omega) (s_arrow hn hA hq (by omega) (s_arrow hn hA a2 (by omega) ?_)))
        try simp (disch := omega) only [k_0, k_1, k_2, k_3, k_4, k_6, k_7, k_10, k_11, k_12, k_13, k_14, k_16, k_32, k_36, k_40, k_41, k_42, k_43, k_49, k_64, k_80, k_96, k_97, k_100, k_109, k_110, k_127, k_128, k_146, k_147, k_160, k_2304, k_4608, k_13824, nI_add, pk_mul, pk_sub, nI_clamp, q_in, nI_ltI, nI_leI, nI_eq, forall_eq, e_shl, e_bit, e_b0, e_b1, e_bn, e_andn, fa_or, fa_and, e_m1, e_nneg]
        rw [hI _ (by omega)]
        refine ⟨by omega, ?_⟩
        cases hbb : b'' with
        | false =>
          refine br_t (by decide) (hag3 _ ⟨false, rfl, fun h => by (cases h), fun h => ?_⟩)
          rw [hbb] at hb''
          exact hb''.mpr ⟨h.1, fun hR x' hx' => h.2 hR x' (by omega)⟩
        | true =>
          refine br_f (by decide) ⟨fun hr => next true ⟨fun _ hR => by (rw [(hRr q).mpr hR] at hr; cases hr), fun _ => rfl⟩ hbb, fun hr => s_free hf (by omega) (by omega) ?_⟩
          rw [sym]
          cases hi : ind fr x y with
          | false => exact br_t (by decide) (next true ⟨fun _ _ h => by (rw [hi] at h; cases h), fun _ => rfl⟩ hbb)
          | true =>
            refine br_f (by decide) ?_
            cases hbm : M (6 * ar (ar q y) x + ar (ar q x) y) with
            | false => exact br_t' (by decide) (next true ⟨fun _ _ _ h => by (rw [hm.mpr h.sym] at hbm; cases hbm), fun _ => rfl⟩ hbb)
            | true => exact br_f' (by decide) (next false ⟨fun h => by (cases h), fun h => absurd (hm.mp hbm).sym (h ((hRr q).mp hr) hi)⟩ hbb)
      · rintro again3 z ⟨b'', rfl, hb''⟩
        unfold wp_X11_isClosed_L41
        try simp (disch := omega) only [k_0, k_1, k_2, k_3, k_4, k_6, k_7, k_10, k_11, k_12, k_13, k_14, k_16, k_32, k_36, k_40, k_41, k_42, k_43, k_49, k_64, k_80, k_96, k_97, k_100, k_109, k_110, k_127, k_128, k_146, k_147, k_160, k_2304, k_4608, k_13824, nI_add, pk_mul, pk_sub, nI_clamp, q_in, nI_ltI, nI_leI, nI_eq, forall_eq, e_shl, e_bit, e_b0, e_b1, e_bn, e_andn, fa_or, fa_and, e_m1, e_nneg]
        repeat (first | refine And.intro (fun hh => absurd hh (by omega)) (fun _ => ?_) | refine And.intro (fun _ => ?_) (fun hh => absurd hh (by omega)) | refine And.intro (by omega) ?_)
        refine hag2 _ ⟨b'', rfl, fun h => ?_, fun h => ?_⟩
        · obtain ⟨h1, h2⟩ := hb''.mp h
          obtain ⟨h3, h4⟩ := hb'.mp h1
          refine ⟨h3, fun hR x y' hxy hy' => ?_⟩
          by_cases e : y' = y
          · subst e; exact h2 hR x hxy
          · exact h4 hR x y' hxy (by omega)
        · exact hb''.mpr ⟨hb'.mpr ⟨h.1, fun hR x y' hxy hy' => h.2 hR x y' hxy (by omega)⟩, fun hR x' hx' => h.2 hR x' y hx' (by omega)⟩
    · rintro again2 z ⟨b', rfl, hb'⟩
      unfold wp_X11_isClosed_L27
      try simp (disch := omega) only [k_0, k_1, k_2, k_3, k_4, k_6, k_7, k_10, k_11, k_12, k_13, k_14, k_16, k_32, k_36, k_40, k_41, k_42, k_43, k_49, k_64, k_80, k_96, k_97, k_100, k_109, k_110, k_127, k_128, k_146, k_147, k_160, k_2304, k_4608, k_13824, nI_add, pk_mul, pk_sub, nI_clamp, q_in, nI_ltI, nI_leI, nI_eq, forall_eq, e_shl, e_bit, e_b0, e_b1, e_bn, e_andn, fa_or, fa_and, e_m1, e_nneg]
      rw [hv0]
      try simp (disch := omega) only [k_0, k_1, k_2, k_3, k_4, k_6, k_7, k_10, k_11, k_12, k_13, k_14, k_16, k_32, k_36, k_40, k_41, k_42, k_43, k_49, k_64, k_80, k_96, k_97, k_100, k_109, k_110, k_127, k_128, k_146, k_147, k_160, k_2304, k_4608, k_13824, nI_add, pk_mul, pk_sub, nI_clamp, q_in, nI_ltI, nI_leI, nI_eq, forall_eq, e_shl, e_bit, e_b0, e_b1, e_bn, e_andn, fa_or, fa_and, e_m1, e_nneg]
      repeat (first | refine And.intro (fun hh => absurd hh (by omega)) (fun _ => ?_) | refine And.intro (fun _ => ?_) (fun hh => absurd hh (by omega)) | refine And.intro (by omega) ?_)
      refine hag _ ⟨b', rfl, fun h => ?_, fun h => ?_⟩
      · obtain ⟨h1, h2⟩ := hb'.mp h
        intro q' hq' hR x y hxy hy
        by_cases e : q' = q
        · subst e; exact h2 hR x y hxy hy
        · exact hb.mp h1 q' (by omega) hR x y hxy hy
      · exact hb'.mpr ⟨hb.mpr (fun q' hq' => h q' (by omega)), fun hR x y hxy hy => h q (by omega) hR x y hxy hy⟩
  · rintro again z ⟨b, rfl, hb⟩
    unfold wp_X11_isClosed_L13
    try simp (disch := omega) only [k_0, k_1, k_2, k_3, k_4, k_6, k_7, k_10, k_11, k_12, k_13, k_14, k_16, k_32, k_36, k_40, k_41, k_42, k_43, k_49, k_64, k_80, k_96, k_97, k_100, k_109, k_110, k_127, k_128, k_146, k_147, k_160, k_2304, k_4608, k_13824, nI_add, pk_mul, pk_sub, nI_clamp, q_in, nI_ltI, nI_leI, nI_eq, forall_eq, e_shl, e_bit, e_b0, e_b1, e_bn, e_andn, fa_or, fa_and, e_m1, e_nneg]
    rw [hn0]
    try simp (disch := omega) only [k_0, k_1, k_2, k_3, k_4, k_6, k_7, k_10, k_11, k_12, k_13, k_14, k_16, k_32, k_36, k_40, k_41, k_42, k_43, k_49, k_64, k_80, k_96, k_97, k_100, k_109, k_110, k_127, k_128, k_146, k_147, k_160, k_2304, k_4608, k_13824, nI_add, pk_mul, pk_sub, nI_clamp, q_in, nI_ltI, nI_leI, nI_eq, forall_eq, e_shl, e_bit, e_b0, e_b1, e_bn, e_andn, fa_or, fa_and, e_m1, e_nneg]
    repeat (first | refine And.intro (fun hh => absurd hh (by omega)) (fun _ => ?_) | refine And.intro (fun _ => ?_) (fun hh => absurd hh (by omega)) | refine And.intro (by omega) ?_)
    refine ⟨bI_01 b, ?_⟩
    cases hbb : b with
    | true => rw [cl_t (show CLO fr k n ar ac from hb.mp hbb)] at hK; exact hK _
    | false =>
      rw [cl_f (fun h => by rw [hb.mpr h] at hbb; cases hbb)] at hK
      exact hK _
theorem M_closed {A_now_alphabet_count : Int32} {A_now_alphabet_free : Nat → Int32} {A_now_words_size : Nat → Int32} {A_now_words_letters : Nat → Nat → Int32} {A_now_recogniser_states : Int32} {A_now_recogniser_accepting : Int32} {A_now_recogniser_arrows : Nat → Int32} {A_now_recogniser_apart : Nat → Int32} {B_v : Nat → Int32} {B_isApart : Nat → Int32} (hR : REL A_now_alphabet_count A_now_alphabet_free A_now_words_size A_now_words_letters A_now_recogniser_states A_now_recogniser_accepting A_now_recogniser_arrows B_v) {K : Int32 → (Nat → Int32) → Prop} (hK : ∀ (r : Int32) A_now_recogniser_apart', (∀ Q : Int32 → (Nat → Int32) → Prop, (∀ B_isApart', Q r B_isApart') → wp_X11_closed B_v B_isApart  Q) → K r A_now_recogniser_apart') : wp_X10_closed A_now_alphabet_count A_now_alphabet_free A_now_recogniser_states A_now_recogniser_accepting A_now_recogniser_arrows A_now_recogniser_apart  K := by
  have hR0 := hR
  obtain ⟨k, fr, W, n, ar, ac, hS, hA, hB⟩ := hR
  have hS0 := hS
  have hA0 := hA
  have hB0 := hB
  obtain ⟨hFR, hWS, hn1, hn6, har, hacl⟩ := hS
  obtain ⟨rfl, hF, hW, rfl, rfl, hAr⟩ := hA
  obtain ⟨hk0, hV, hWV, hn0, hac0, hArV, hAr6⟩ := hB
  have hk6 := hFR.2.1
  have hk2 := hFR.1
  have irr := hFR.irr
  have sym := hFR.sym
  unfold wp_X10_closed
  refine s_isClosed hF hk6 hn1 hn6 hAr har (fun ap => s_num _ ?_)
  apply hK
  intro Q hQ
  unfold wp_X11_closed
  refine s_isClosedR sym hk0 hn0 hac0 hV hk6 hn1 hn6 hArV hAr6 har (fun ia => ?_)
  cases hc : cl (CLO fr k n ar ac)
  · rw [hc] at hQ; exact br_t (by decide) (hQ _)
  · rw [hc] at hQ; exact br_f (by decide) (hQ _)
