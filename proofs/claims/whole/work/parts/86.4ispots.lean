/-! the spots of a form -/
def RMK (arr : Nat → Int64) (b m : Nat) : Prop := ∀ q, q < 128 → RQ arr b q = m.testBit q
theorem RMK.inc {arr arr' : Nat → Int64} {b m m' : Nat} {f : Nat → Bool} (h : RMK arr b m) (hi : INC arr' arr b f) (hf : ∀ q, q < 128 → f q = m'.testBit q) : RMK arr' b (m ||| m') := fun q hq => by
  rw [hi.1 q hq, h q hq, hf q hq, Nat.testBit_or]
theorem RMK.keep {arr arr' : Nat → Int64} {a b m : Nat} {f : Nat → Bool} (h : RMK arr a m) (hi : INC arr' arr b f) (hab : a ≠ b) : RMK arr' a m := fun q hq => by
  rw [hi.2 a q hab hq, h q hq]
theorem s_chain {sp l r : Nat} (hsp : sp ≤ 80) (hl : l < 160) (hr : r < 160) {fi la fo : Nat → Int64} {K : (Nat → Int64) → Prop} (hK : ∀ fo', (∀ p, p < 80 → ∀ q, q < 128 → RQ fo' p q = if p < sp ∧ RQ la l p = true then (RQ fo p q || RQ fi r q) else RQ fo p q) → K fo') : wp_X2_chain (nI sp) fi la fo (nI l) (nI r) K := by
  unfold wp_X2_chain
  refine for_X2_chain_L2 _ _ _ _ _ _ (sp) (fun i fo' => ∀ p, p < 80 → ∀ q, q < 128 → RQ fo' p q = if p < i ∧ RQ la l p = true then (RQ fo p q || RQ fi r q) else RQ fo p q) ?_ ?_ (0) _ _ rfl (Nat.zero_le _) (fun p hp q hq => by rw [if_neg (by omega)])
  · intro again i fo' hi hf hag
    unfold wp_X2_chain_L2
    try simp (disch := omega) only [k_0, k_1, k_2, k_3, k_4, k_6, k_7, k_10, k_11, k_12, k_13, k_14, k_16, k_32, k_36, k_40, k_41, k_42, k_43, k_49, k_64, k_80, k_96, k_97, k_100, k_109, k_110, k_127, k_128, k_146, k_147, k_160, k_2304, k_4608, k_13824, nI_add, pk_mul, pk_sub, nI_clamp, q_in, nI_ltI, nI_leI, nI_eq, forall_eq, e_shl, e_bit, e_b0, e_b1, e_bn, e_andn, fa_or, fa_and, e_m1, e_nneg]
    repeat (first | refine And.intro (fun hh => absurd hh (by omega)) (fun _ => ?_) | refine And.intro (fun _ => ?_) (fun hh => absurd hh (by omega)) | refine And.intro (by omega) ?_)
    refine s_contains rws320 hl (by omega) ?_
    cases hb : RQ la l i with
    | false =>
      refine br_t (by decide) ?_
      refine hag _ (fun p hp q hq => ?_)
      rw [hf p hp q hq]
      by_cases e : p = i
      · subst e
        rw [if_neg (by omega), if_neg (by rw [hb]; simp)]
      · by_cases z : p < i ∧ RQ la l p = true
        · rw [if_pos z, if_pos ⟨by omega, z.2⟩]
        · rw [if_neg z, if_neg (fun w => z ⟨by omega, w.2⟩)]
    | true =>
      refine br_f (by decide) (s_include rws160 rws320 (by omega) hr (fun fo'' hi2 => ?_))
      try simp (disch := omega) only [k_0, k_1, k_2, k_3, k_4, k_6, k_7, k_10, k_11, k_12, k_13, k_14, k_16, k_32, k_36, k_40, k_41, k_42, k_43, k_49, k_64, k_80, k_96, k_97, k_100, k_109, k_110, k_127, k_128, k_146, k_147, k_160, k_2304, k_4608, k_13824, nI_add, pk_mul, pk_sub, nI_clamp, q_in, nI_ltI, nI_leI, nI_eq, forall_eq, e_shl, e_bit, e_b0, e_b1, e_bn, e_andn, fa_or, fa_and, e_m1, e_nneg]
      refine hag _ (fun p hp q hq => ?_)
      by_cases e : p = i
      · subst e
        rw [hi2.1 q hq, hf p hp q hq, if_neg (by omega), if_pos ⟨by omega, hb⟩]
      · rw [hi2.2 p q e hq, hf p hp q hq]
        by_cases z : p < i ∧ RQ la l p = true
        · rw [if_pos z, if_pos ⟨by omega, z.2⟩]
        · rw [if_neg z, if_neg (fun w => z ⟨by omega, w.2⟩)]
  · intro again fo' hf
    unfold wp_X2_chain_L2
    try simp (disch := omega) only [k_0, k_1, k_2, k_3, k_4, k_6, k_7, k_10, k_11, k_12, k_13, k_14, k_16, k_32, k_36, k_40, k_41, k_42, k_43, k_49, k_64, k_80, k_96, k_97, k_100, k_109, k_110, k_127, k_128, k_146, k_147, k_160, k_2304, k_4608, k_13824, nI_add, pk_mul, pk_sub, nI_clamp, q_in, nI_ltI, nI_leI, nI_eq, forall_eq, e_shl, e_bit, e_b0, e_b1, e_bn, e_andn, fa_or, fa_and, e_m1, e_nneg]
    repeat (first | refine And.intro (fun hh => absurd hh (by omega)) (fun _ => ?_) | refine And.intro (fun _ => ?_) (fun hh => absurd hh (by omega)) | refine And.intro (by omega) ?_)
    exact hK _ hf
theorem LT_at {ns : List ND} {j a n : Nat} (ha : a < j) (hj : j ≤ n) : LT ns n a = LT ns j a := by
  have := LT_old (ns := ns) ha (n - j)
  rw [show j + (n - j) = n by omega] at this
  exact this
theorem s_findSpots {k : Nat} {ns : List ND} {S0 : List Nat} (hk : k ≤ 6) (hsg : sgOK k ns) (hst : stk ns ns.length = some S0) (hlen : ns.length ≤ 159) (h160 : ∀ j, j ≤ ns.length → SN ns j ≤ 160) {kd lf rt le : Nat → Int32} (hN : NDR kd lf rt ns) (hle : ∀ j, j < ns.length → le j = nI (LT ns ns.length j)) {sp0 : Int32} {f0 l0 fo0 so0 : Nat → Int64} {K : Int32 → (Nat → Int64) → (Nat → Int64) → (Nat → Int64) → (Nat → Int64) → Prop} (hK : ∀ fi la fo so, (∀ a, a < ns.length → RMK fi a (FM ns ns.length a)) → (∀ a, a < ns.length → RMK la a (LM ns ns.length a)) → (∀ p, p < 80 → RMK fo p (FO ns ns.length p)) → (∀ x, x < 6 → ∀ q, q < 128 → (RQ so x q = true ↔ q < SP ns ns.length ∧ LQ ns ns.length q = x)) → K (nI (SP ns ns.length)) fi la fo so) : wp_X2_findSpots sp0 f0 l0 fo0 so0 (nI ns.length) kd lf rt le K := by
  have zr : ∀ {N : Nat} {arr : Nat → Int64} {b : Nat}, (∀ j, j < N → arr j = 0) → 2 * b + 1 < N → RMK arr b 0 := fun {N arr b} h hb q hq => by
    unfold RQ
    rw [h _ (by omega), bt_0, Nat.zero_testBit]
  unfold wp_X2_findSpots
  refine s_fillL (by decide) _ _ (fun fi1 z1 => s_fillL (by decide) _ _ (fun la1 z2 => s_fillL (by decide) _ _ (fun fo1 z3 => s_fillL (by decide) _ _ (fun so1 z4 => ?_))))
  refine for_X2_findSpots_L39 _ _ _ _ _ _ (ns.length) (fun j sp fi la fo so => sp = nI (SP ns j) ∧ (∀ a, a < j → RMK fi a (FM ns j a)) ∧ (∀ a, j ≤ a → a < 160 → RMK fi a 0) ∧ (∀ a, a < j → RMK la a (LM ns j a)) ∧ (∀ a, j ≤ a → a < 160 → RMK la a 0) ∧ (∀ p, p < 80 → RMK fo p (FO ns j p)) ∧ (∀ x, x < 6 → ∀ q, q < 128 → (RQ so x q = true ↔ q < SP ns j ∧ LQ ns j q = x))) ?_ ?_ (0) _ _ _ _ _ _ rfl (Nat.zero_le _) (⟨rfl, fun a ha => absurd ha (Nat.not_lt_zero _), fun a _ ha => zr z1 (by omega), fun a ha => absurd ha (Nat.not_lt_zero _), fun a _ ha => zr z2 (by omega), fun p hp => zr z3 (by omega), fun x hx q hq => ?_⟩)
  · rintro again j sp fi la fo so hj ⟨rfl, h1, h2, h3, h4, h5, h6⟩ hag
    obtain ⟨sg, l, r, e, hc⟩ := nd_cases hk hsg hst (Nat.le_refl _) hj
    obtain ⟨n1, n2, n3⟩ := hN j hj
    rw [e] at n1 n2 n3
    replace n1 : kd j = nI (kcd sg) := n1
    have sp1 := SP_SN ns j
    have sp2 := SP_SN ns (j + 1)
    have sn1 := h160 j (by omega)
    have sn2 := h160 (j + 1) hj
    have fin : ∀ sp' fi' la' fo' so', sp' = nI (SP ns (j + 1)) → RMK fi' j (FM ns (j + 1) j) → (∀ a q, a ≠ j → q < 128 → RQ fi' a q = RQ fi a q) → RMK la' j (LM ns (j + 1) j) → (∀ a q, a ≠ j → q < 128 → RQ la' a q = RQ la a q) → (∀ p, p < 80 → RMK fo' p (FO ns (j + 1) p)) → (∀ x, x < 6 → ∀ q, q < 128 → (RQ so' x q = true ↔ q < SP ns (j + 1) ∧ LQ ns (j + 1) q = x)) → again (nI (j + 1)) sp' fi' la' fo' so' := by
      intro sp' fi' la' fo' so' a1 a2 a3 a4 a5 a6 a7
      refine hag _ _ _ _ _ ⟨a1, fun a ha => ?_, fun a ha ha2 q hq => ?_, fun a ha => ?_, fun a ha ha2 q hq => ?_, a6, a7⟩
      · by_cases w : a = j
        · subst w; exact a2
        · have : FM ns (j + 1) a = FM ns j a := by simp [FM, w]
          rw [this]
          exact fun q hq => by rw [a3 a q w hq]; exact h1 a (by omega) q hq
      · rw [a3 a q (by omega) hq]; exact h2 a (by omega) ha2 q hq
      · by_cases w : a = j
        · subst w; exact a4
        · have : LM ns (j + 1) a = LM ns j a := by simp [LM, w]
          rw [this]
          exact fun q hq => by rw [a5 a q w hq]; exact h3 a (by omega) q hq
      · rw [a5 a q (by omega) hq]; exact h4 a (by omega) ha2 q hq
    have f0j := h2 j (Nat.le_refl _) (by omega)
    have l0j := h4 j (Nat.le_refl _) (by omega)
    unfold wp_X2_findSpots_L39
    try simp (disch := omega) only [k_0, k_1, k_2, k_3, k_4, k_6, k_7, k_10, k_11, k_12, k_13, k_14, k_16, k_32, k_36, k_40, k_41, k_42, k_43, k_49, k_64, k_80, k_96, k_97, k_100, k_109, k_110, k_127, k_128, k_146, k_147, k_160, k_2304, k_4608, k_13824, nI_add, pk_mul, pk_sub, nI_clamp, q_in, nI_ltI, nI_leI, nI_eq, forall_eq, e_shl, e_bit, e_b0, e_b1, e_bn, e_andn, fa_or, fa_and, e_m1, e_nneg]
    repeat (first | refine And.intro (fun hh => absurd hh (by omega)) (fun _ => ?_) | refine And.intro (fun _ => ?_) (fun hh => absurd hh (by omega)) | refine And.intro (by omega) ?_)
    unfold wp_X2_findEnds
    rw [nI_clamp (by omega), n1, n2, n3]
    refine ⟨(q_in (by omega)).mpr (by omega), ?_⟩
    rintro _ rfl
    rcases hc with g | g | ⟨g, gl, gr⟩ | ⟨g, gl, gr⟩ | ⟨g, gl⟩
    · have g10 : sg < 10 := by omega
      have n11 : sg ≠ 11 := by omega
      have n13 : sg ≠ 13 := by omega
      have e3 : SP ns (j + 1) = SP ns j + 1 := by simp [SP, e, g10]
      have e4 : FM ns (j + 1) j = 2 ^ SP ns j := by simp [FM, e, fmV, g10]
      have e5 : LM ns (j + 1) j = 2 ^ SP ns j := by simp [LM, e, lmV, g10]
      have e6 : ∀ p, FO ns (j + 1) p = FO ns j p := fun p => by simp [FO, e, n11, n13]
      rw [show kcd sg = 1 from if_pos g10, show lcd (sg, l, r) = nI sg from if_pos g10]
      refine ⟨fun _ => ?_, fun q => absurd q (by decide), fun q => absurd q (by decide), fun q => absurd q (by decide), fun q => absurd rfl q⟩
      unfold wp_X2_addSpot
      refine br_f (by rw [k_0, nI_ltI (by omega) (by omega)]; omega) (br_t (by rw [k_80, nI_ltI (by omega) (by omega)]; omega) ?_)
      refine s_insert rws320 (by omega) (by omega) (fun fi' i1 => s_insert rws320 (by omega) (by omega) (fun la' i2 => s_insert rws12 (by omega) (by omega) (fun so' i3 => ?_)))
      try simp (disch := omega) only [k_0, k_1, k_2, k_3, k_4, k_6, k_7, k_10, k_11, k_12, k_13, k_14, k_16, k_32, k_36, k_40, k_41, k_42, k_43, k_49, k_64, k_80, k_96, k_97, k_100, k_109, k_110, k_127, k_128, k_146, k_147, k_160, k_2304, k_4608, k_13824, nI_add, pk_mul, pk_sub, nI_clamp, q_in, nI_ltI, nI_leI, nI_eq, forall_eq, e_shl, e_bit, e_b0, e_b1, e_bn, e_andn, fa_or, fa_and, e_m1, e_nneg]
      refine fin _ _ _ _ _ (by rw [e3]) ?_ (fun a q ha hq => by rw [i1 a q hq, decide_eq_false (fun w => ha w.1), Bool.or_false]) ?_ (fun a q ha hq => by rw [i2 a q hq, decide_eq_false (fun w => ha w.1), Bool.or_false]) (fun p hp => by rw [e6]; exact h5 p hp) (fun x hx q hq => ?_)
      · intro q hq
        rw [i1 j q hq, f0j q hq, e4, Nat.zero_testBit, Bool.false_or, Nat.testBit_two_pow]
        apply decide_eq_decide.mpr
        omega
      · intro q hq
        rw [i2 j q hq, l0j q hq, e5, Nat.zero_testBit, Bool.false_or, Nat.testBit_two_pow]
        apply decide_eq_decide.mpr
        omega
      · rw [i3 x q hq, Bool.or_eq_true, h6 x hx q hq, decide_eq_true_iff, e3]
        by_cases w : q = SP ns j
        · have a2 : LQ ns (j + 1) q = sg := by simp [LQ, e, g10, w]
          rw [a2]
          constructor
          · rintro (z | z)
            · omega
            · exact ⟨by omega, z.1.symm⟩
          · rintro ⟨z1, z2⟩
            exact Or.inr ⟨z2.symm, w⟩
        · have a2 : LQ ns (j + 1) q = LQ ns j q := by simp [LQ, w]
          rw [a2]
          constructor
          · rintro (z | z)
            · exact ⟨by omega, z.2⟩
            · exact absurd z.2 w
          · rintro ⟨z1, z2⟩
            exact Or.inl ⟨by omega, z2⟩
    · subst g
      refine ⟨fun q => absurd q (by decide), fun q => absurd q (by decide), fun q => absurd q (by decide), fun q => absurd q (by decide), fun _ _ _ _ => ?_⟩
      have e3 : SP ns (j + 1) = SP ns j := by simp [SP, e]
      have e4 : FM ns (j + 1) j = 0 := by simp [FM, e, fmV]
      have e5 : LM ns (j + 1) j = 0 := by simp [LM, e, lmV]
      have e6 : ∀ p, FO ns (j + 1) p = FO ns j p := fun p => by simp [FO, e]
      have e7 : LQ ns (j + 1) = LQ ns j := by funext q; simp [LQ, e]
      try simp (disch := omega) only [k_0, k_1, k_2, k_3, k_4, k_6, k_7, k_10, k_11, k_12, k_13, k_14, k_16, k_32, k_36, k_40, k_41, k_42, k_43, k_49, k_64, k_80, k_96, k_97, k_100, k_109, k_110, k_127, k_128, k_146, k_147, k_160, k_2304, k_4608, k_13824, nI_add, pk_mul, pk_sub, nI_clamp, q_in, nI_ltI, nI_leI, nI_eq, forall_eq, e_shl, e_bit, e_b0, e_b1, e_bn, e_andn, fa_or, fa_and, e_m1, e_nneg]
      exact fin _ _ _ _ _ (by rw [e3]) (by rw [e4]; exact f0j) (fun _ _ _ _ => rfl) (by rw [e5]; exact l0j) (fun _ _ _ _ => rfl) (fun p hp => by rw [e6]; exact h5 p hp) (by rw [e3, e7]; exact h6)
    · subst g
      have hl1 := h1 l gl
      have hr1 := h1 r gr
      have hl3 := h3 l gl
      have hr3 := h3 r gr
      have e3 : SP ns (j + 1) = SP ns j := by simp [SP, e]
      have e4 : FM ns (j + 1) j = if LT ns j l = 0 then FM ns j l ||| FM ns j r else FM ns j l := by simp [FM, e, fmV]
      have e5 : LM ns (j + 1) j = if LT ns j r = 0 then LM ns j r ||| LM ns j l else LM ns j r := by simp [LM, e, lmV]
      have e6 : ∀ p, FO ns (j + 1) p = if (LM ns j l).testBit p then FO ns j p ||| FM ns j r else FO ns j p := fun p => by simp [FO, e]
      have e7 : LQ ns (j + 1) = LQ ns j := by funext q; simp [LQ, e]
      have lml : LM ns j l < 2 ^ SP ns j := by
        obtain ⟨S1, hS1⟩ := stk_pre hst j (Nat.le_of_lt hj)
        obtain ⟨S2, hS2⟩ := stk_pre hst (j + 1) hj
        obtain ⟨S3, hS3, hnd⟩ := stk_node hS2
        rw [e] at hnd
        rcases hnd with ⟨q, -⟩ | ⟨q, -⟩ | ⟨-, -, T, rfl, -⟩
        · exact absurd q (by simp)
        · exact absurd q (by simp)
        · have ga := GI_all hk hsg hst (Nat.le_refl _) (Nat.le_of_lt hj) hS3
          exact (ga.2.2.2.2.2.1 (tpl ns j l) (List.mem_cons_of_mem _ List.mem_cons_self)).2.2.2.2.2.2.2
      rw [show lcd (11, l, r) = nI l from rfl, show rcd (11, l, r) = nI r from rfl]
      refine ⟨fun q => absurd q (by decide), fun q => absurd q (by decide), fun _ => ?_, fun q => absurd q (by decide), fun _ _ q _ => absurd rfl q⟩
      refine s_chain (by omega) (by omega) (by omega) (fun fo' c1 => ?_)
      have hfo : ∀ p, p < 80 → RMK fo' p (FO ns (j + 1) p) := fun p hp q hq => by
        rw [c1 p hp q hq, hl3 p (by omega), e6, h5 p hp q hq, hr1 q hq]
        by_cases w : (LM ns j l).testBit p = true
        · rw [if_pos ⟨tb_of_lt lml w, w⟩, if_pos w, Nat.testBit_or]
        · rw [if_neg (fun z => w z.2), if_neg w]
      refine s_includeS rws320 (by omega) (by omega) (fun fi' i1 => s_includeS rws320 (by omega) (by omega) (fun la' i2 => ?_))
      have rf1 : RMK fi' j (FM ns j l) := by
        have := f0j.inc i1 (m' := FM ns j l) (fun q hq => hl1 q hq)
        rw [Nat.zero_or] at this
        exact this
      have rl1 : RMK la' j (LM ns j r) := by
        have := l0j.inc i2 (m' := LM ns j r) (fun q hq => hr3 q hq)
        rw [Nat.zero_or] at this
        exact this
      have j158 : ∀ fi'', RMK fi'' j (FM ns (j + 1) j) → (∀ a q, a ≠ j → q < 128 → RQ fi'' a q = RQ fi a q) → wp_X2_findEnds_J158 (fun t_spots_5 t_firsts_6 t_lasts_7 t_follows_8 t_spotsOf_9 => again (nI (j + 1)) t_spots_5 t_firsts_6 t_lasts_7 t_follows_8 t_spotsOf_9) (nI (SP ns j)) fi'' la' fo' so (nI ns.length) le (nI j) (nI l) (nI r) := by
        intro fi'' b1 b2
        unfold wp_X2_findEnds_J158
        refine s_leastOf (v := LT ns j r) (by omega) (by omega) (by rw [hle r (by omega), LT_at gr (by omega)]) ?_
        have ltb : LT ns j r ≤ 160 := by
          obtain ⟨S2, hS2⟩ := stk_pre hst (j + 1) hj
          obtain ⟨S3, hS3, hnd⟩ := stk_node hS2
          rw [e] at hnd
          rcases hnd with ⟨q, -⟩ | ⟨q, -⟩ | ⟨-, -, T, rfl, -⟩
          · exact absurd q (by simp)
          · exact absurd q (by simp)
          · have := LT_sum hS3
            have w : LT ns j r + (LT ns j l + sumS (LT ns j) T) ≤ j := this
            omega
        by_cases w : LT ns j r = 0
        · refine br_t' (by rw [w]; rfl) (s_includeS rws320 (by omega) (by omega) (fun la'' i3 => ?_))
          refine fin _ _ _ _ _ (by rw [e3]) b1 b2 ?_ (fun a q ha hq => by rw [i3.2 a q ha hq, i2.2 a q ha hq]) hfo (by rw [e3, e7]; exact h6)
          rw [e5, if_pos w]
          exact rl1.inc i3 (fun q hq => by rw [i2.2 l q (by omega) hq]; exact hl3 q hq)
        · refine br_f' (by rw [k_0, q_inj (by omega) (by omega)]; exact w) ?_
          exact fin _ _ _ _ _ (by rw [e3]) b1 b2 (by rw [e5, if_neg w]; exact rl1) (fun a q ha hq => i2.2 a q ha hq) hfo (by rw [e3, e7]; exact h6)
      have ltl : LT ns j l ≤ 160 := by
        obtain ⟨S2, hS2⟩ := stk_pre hst (j + 1) hj
        obtain ⟨S3, hS3, hnd⟩ := stk_node hS2
        rw [e] at hnd
        rcases hnd with ⟨q, -⟩ | ⟨q, -⟩ | ⟨-, -, T, rfl, -⟩
        · exact absurd q (by simp)
        · exact absurd q (by simp)
        · have := LT_sum hS3
          have w : LT ns j r + (LT ns j l + sumS (LT ns j) T) ≤ j := this
          omega
      refine s_leastOf (v := LT ns j l) (by omega) (by omega) (by rw [hle l (by omega), LT_at gl (by omega)]) ?_
      by_cases w : LT ns j l = 0
      · refine br_t' (by rw [w]; rfl) (s_includeS rws320 (by omega) (by omega) (fun fi'' i3 => ?_))
        refine j158 _ ?_ (fun a q ha hq => by rw [i3.2 a q ha hq, i1.2 a q ha hq])
        rw [e4, if_pos w]
        exact rf1.inc i3 (fun q hq => by rw [i1.2 r q (by omega) hq]; exact hr1 q hq)
      · refine br_f' (by rw [k_0, q_inj (by omega) (by omega)]; exact w) ?_
        exact j158 _ (by rw [e4, if_neg w]; exact rf1) (fun a q ha hq => i1.2 a q ha hq)
    · subst g
      have hl1 := h1 l gl
      have hr1 := h1 r gr
      have hl3 := h3 l gl
      have hr3 := h3 r gr
      have e3 : SP ns (j + 1) = SP ns j := by simp [SP, e]
      have e4 : FM ns (j + 1) j = FM ns j l ||| FM ns j r := by simp [FM, e, fmV]
      have e5 : LM ns (j + 1) j = LM ns j l ||| LM ns j r := by simp [LM, e, lmV]
      have e6 : ∀ p, FO ns (j + 1) p = FO ns j p := fun p => by simp [FO, e]
      have e7 : LQ ns (j + 1) = LQ ns j := by funext q; simp [LQ, e]
      rw [show lcd (12, l, r) = nI l from rfl, show rcd (12, l, r) = nI r from rfl]
      refine ⟨fun q => absurd q (by decide), fun _ => ?_, fun q => absurd q (by decide), fun q => absurd q (by decide), fun _ q _ _ => absurd rfl q⟩
      refine s_includeS rws320 (by omega) (by omega) (fun fi' i1 => s_includeS rws320 (by omega) (by omega) (fun fi'' i2 => s_includeS rws320 (by omega) (by omega) (fun la' i3 => s_includeS rws320 (by omega) (by omega) (fun la'' i4 => ?_))))
      try simp (disch := omega) only [k_0, k_1, k_2, k_3, k_4, k_6, k_7, k_10, k_11, k_12, k_13, k_14, k_16, k_32, k_36, k_40, k_41, k_42, k_43, k_49, k_64, k_80, k_96, k_97, k_100, k_109, k_110, k_127, k_128, k_146, k_147, k_160, k_2304, k_4608, k_13824, nI_add, pk_mul, pk_sub, nI_clamp, q_in, nI_ltI, nI_leI, nI_eq, forall_eq, e_shl, e_bit, e_b0, e_b1, e_bn, e_andn, fa_or, fa_and, e_m1, e_nneg]
      refine fin _ _ _ _ _ (by rw [e3]) ?_ (fun a q ha hq => by rw [i2.2 a q ha hq, i1.2 a q ha hq]) ?_ (fun a q ha hq => by rw [i4.2 a q ha hq, i3.2 a q ha hq]) (fun p hp => by rw [e6]; exact h5 p hp) (by rw [e3, e7]; exact h6)
      · rw [e4]
        have t1 := f0j.inc i1 (m' := FM ns j l) (fun q hq => hl1 q hq)
        rw [Nat.zero_or] at t1
        exact t1.inc i2 (fun q hq => by rw [i1.2 r q (by omega) hq]; exact hr1 q hq)
      · rw [e5]
        have t1 := l0j.inc i3 (m' := LM ns j l) (fun q hq => hl3 q hq)
        rw [Nat.zero_or] at t1
        exact t1.inc i4 (fun q hq => by rw [i3.2 r q (by omega) hq]; exact hr3 q hq)
    · subst g
      have hl1 := h1 l gl
      have hl3 := h3 l gl
      have e3 : SP ns (j + 1) = SP ns j := by simp [SP, e]
      have e4 : FM ns (j + 1) j = FM ns j l := by simp [FM, e, fmV]
      have e5 : LM ns (j + 1) j = LM ns j l := by simp [LM, e, lmV]
      have e6 : ∀ p, FO ns (j + 1) p = if (LM ns j l).testBit p then FO ns j p ||| FM ns j l else FO ns j p := fun p => by simp [FO, e]
      have e7 : LQ ns (j + 1) = LQ ns j := by funext q; simp [LQ, e]
      have lml : LM ns j l < 2 ^ SP ns j := by
        obtain ⟨S2, hS2⟩ := stk_pre hst (j + 1) hj
        obtain ⟨S3, hS3, hnd⟩ := stk_node hS2
        rw [e] at hnd
        rcases hnd with ⟨q, -⟩ | ⟨-, T, rfl, -⟩ | ⟨-, q, -⟩
        · exact absurd q (by simp)
        · have ga := GI_all hk hsg hst (Nat.le_refl _) (Nat.le_of_lt hj) hS3
          exact (ga.2.2.2.2.2.1 (tpl ns j l) List.mem_cons_self).2.2.2.2.2.2.2
        · exact absurd rfl q
      rw [show lcd (13, l, r) = nI l from rfl]
      refine ⟨fun q => absurd q (by decide), fun q => absurd q (by decide), fun q => absurd q (by decide), fun _ => ?_, fun _ _ _ q => absurd rfl q⟩
      refine s_chain (by omega) (by omega) (by omega) (fun fo' c1 => ?_)
      have hfo : ∀ p, p < 80 → RMK fo' p (FO ns (j + 1) p) := fun p hp q hq => by
        rw [c1 p hp q hq, hl3 p (by omega), e6, h5 p hp q hq, hl1 q hq]
        by_cases w : (LM ns j l).testBit p = true
        · rw [if_pos ⟨tb_of_lt lml w, w⟩, if_pos w, Nat.testBit_or]
        · rw [if_neg (fun z => w z.2), if_neg w]
      refine s_includeS rws320 (by omega) (by omega) (fun fi' i1 => s_includeS rws320 (by omega) (by omega) (fun la' i2 => ?_))
      try simp (disch := omega) only [k_0, k_1, k_2, k_3, k_4, k_6, k_7, k_10, k_11, k_12, k_13, k_14, k_16, k_32, k_36, k_40, k_41, k_42, k_43, k_49, k_64, k_80, k_96, k_97, k_100, k_109, k_110, k_127, k_128, k_146, k_147, k_160, k_2304, k_4608, k_13824, nI_add, pk_mul, pk_sub, nI_clamp, q_in, nI_ltI, nI_leI, nI_eq, forall_eq, e_shl, e_bit, e_b0, e_b1, e_bn, e_andn, fa_or, fa_and, e_m1, e_nneg]
      refine fin _ _ _ _ _ (by rw [e3]) ?_ (fun a q ha hq => i1.2 a q ha hq) ?_ (fun a q ha hq => i2.2 a q ha hq) hfo (by rw [e3, e7]; exact h6)
      · rw [e4]
        have t1 := f0j.inc i1 (m' := FM ns j l) (fun q hq => hl1 q hq)
        rw [Nat.zero_or] at t1
        exact t1
      · rw [e5]
        have t1 := l0j.inc i2 (m' := LM ns j l) (fun q hq => hl3 q hq)
        rw [Nat.zero_or] at t1
        exact t1
  · rintro again sp fi la fo so ⟨rfl, h1, h2, h3, h4, h5, h6⟩
    unfold wp_X2_findSpots_L39
    try simp (disch := omega) only [k_0, k_1, k_2, k_3, k_4, k_6, k_7, k_10, k_11, k_12, k_13, k_14, k_16, k_32, k_36, k_40, k_41, k_42, k_43, k_49, k_64, k_80, k_96, k_97, k_100, k_109, k_110, k_127, k_128, k_146, k_147, k_160, k_2304, k_4608, k_13824, nI_add, pk_mul, pk_sub, nI_clamp, q_in, nI_ltI, nI_leI, nI_eq, forall_eq, e_shl, e_bit, e_b0, e_b1, e_bn, e_andn, fa_or, fa_and, e_m1, e_nneg]
    repeat (first | refine And.intro (fun hh => absurd hh (by omega)) (fun _ => ?_) | refine And.intro (fun _ => ?_) (fun hh => absurd hh (by omega)) | refine And.intro (by omega) ?_)
    exact hK _ _ _ _ h1 h3 h5 h6
  · unfold RQ
    rw [z4 _ (by omega), bt_0]
    constructor
    · intro w; cases w
    · rintro ⟨w, -⟩
      exact absurd w (Nat.not_lt_zero _)
