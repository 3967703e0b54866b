/-! connected sets of letters -/
def subm (A B : Nat) : Prop := ∀ j, A.testBit j = true → B.testBit j = true
theorem subm.eq {A B : Nat} (h : subm A B) (h2 : subm B A) : A = B := by
  apply Nat.eq_of_testBit_eq
  intro j
  cases hA : A.testBit j with
  | true => exact (h j hA).symm
  | false =>
    cases hB : B.testBit j with
    | false => rfl
    | true => rw [h2 j hB] at hA; cases hA
theorem subm.lt {A B k : Nat} (h : subm A B) (hB : B < 2 ^ k) : A < 2 ^ k := tb_lt (fun j hj => tb_of_lt hB (h j hj))
theorem pop_lt {A B k : Nat} (h : subm A B) (hk : ∃ j, j < k ∧ B.testBit j = true ∧ A.testBit j = false) : pop A k < pop B k := by
  rw [pop_ct, pop_ct]
  have h1 := fb_ct_or (p := tb A) (q := fun j => tb B j && !tb A j) (n := k) (fun j _ => by
    rintro ⟨a, b⟩
    simp only [Bool.and_eq_true, Bool.not_eq_true'] at b
    rw [b.2] at a
    cases a)
  have h2 : fb_ct (fun j => tb A j || (tb B j && !tb A j)) k = fb_ct (tb B) k := fb_ct_cong (fun j _ => by
    have := h j
    show (A.testBit j || (B.testBit j && !A.testBit j)) = B.testBit j
    cases hA : A.testBit j with
    | true => rw [this hA]; rfl
    | false => simp)
  have h3 : 0 < fb_ct (fun j => tb B j && !tb A j) k := by
    rw [fb_ct_pos]
    obtain ⟨j, a, b, c⟩ := hk
    exact ⟨j, a, by show (B.testBit j && !A.testBit j) = true; rw [b, c]; rfl⟩
  omega
theorem pop_le (A k : Nat) : pop A k ≤ k := by
  rw [pop_ct]
  exact fb_ct_le _ _
theorem pop_pos {A k : Nat} (h : A < 2 ^ k) (h0 : A ≠ 0) : 0 < pop A k := by
  obtain ⟨t, a, b, -⟩ := lowb_ex h h0
  rw [pop_ct, fb_ct_pos]
  exact ⟨t, a, b⟩
def lowS (S : Nat) : Nat := if S = 0 then 0 else 2 ^ lowb S 6
theorem low_tab : ∀ S, S < 64 → nI S &&& (-nI S) = nI (lowS S) ∧ lowS S &&& S = lowS S ∧ (lowS S = 0 → S = 0) ∧ lowS S < 64 := by decide +kernel
theorem low_sub {S : Nat} (h : S < 64) : subm (lowS S) S := by
  intro j hj
  rw [← (low_tab S h).2.1, Nat.testBit_and, Bool.and_eq_true] at hj
  exact hj.2
def Cl (fr : Nat → Nat) (S C : Nat) : Prop := subm C S ∧ ∀ x y, C.testBit x = true → S.testBit y = true → ind fr x y = false → C.testBit y = true
def LF (fr : Nat → Nat) (S R : Nat) : Prop := subm (lowS S) R ∧ Cl fr S R ∧ ∀ C, subm (lowS S) C → Cl fr S C → subm R C
theorem LF.one {fr : Nat → Nat} {S R R' : Nat} (h : LF fr S R) (h' : LF fr S R') : R = R' := (h.2.2 R' h'.1 h'.2.1).eq (h'.2.2 R h.1 h.2.1)
noncomputable def con (fr : Nat → Nat) (S : Nat) : Bool := @decide (LF fr S S) (Classical.propDecidable _)
theorem con_eq {fr : Nat → Nat} {S R : Nat} (h : LF fr S R) : con fr S = decide (R = S) := by
  unfold con
  by_cases e : R = S
  · subst e
    exact (@decide_eq_true _ (Classical.propDecidable _) h).trans (decide_eq_true rfl).symm
  · exact (@decide_eq_false _ (Classical.propDecidable _) (fun q => e (h.one q))).trans (decide_eq_false e).symm
theorem lt64 {S k : Nat} (h : S < 2 ^ k) (hk : k ≤ 6) : S < 64 := Nat.lt_of_lt_of_le h (Nat.pow_le_pow_right (n := 2) (by decide) hk)
theorem s_conn {free : Nat → Int32} {fr : Nat → Nat} {k : Nat} (irr : ∀ a, ind fr a a = false) (hf : FA free fr) (hk : k ≤ 6) {S : Nat} (hS : S < 2 ^ k) {K : Int32 → Prop} (hK : K (bI (con fr S))) : wp_X0_isConnected (nI k) free (nI S) K := by
  have hS64 := lt64 hS hk
  obtain ⟨t1, t2, t3, t4⟩ := low_tab S hS64
  have t5 := low_sub hS64
  unfold wp_X0_isConnected
  rw [t1]
  refine nm_e ?_
  refine for_X0_isConnected_L7 _ _ _ _ (k) (fun i x => ∃ R, x = nI R ∧ subm (lowS S) R ∧ subm R S ∧ (∀ C, subm (lowS S) C → Cl fr S C → subm R C) ∧ (Cl fr S R ∨ i + 1 ≤ pop R k)) ?_ ?_ (0) _ _ rfl (Nat.zero_le _) (⟨lowS S, rfl, fun _ h => h, t5, fun C h _ => h, ?_⟩)
  · rintro again i x hi ⟨R, rfl, h1, h2, h3, h4⟩ hag
    unfold wp_X0_isConnected_L7
    try simp (disch := omega) only [k_0, k_1, k_2, k_3, k_4, k_6, k_7, k_10, k_11, k_12, k_13, k_14, k_16, k_32, k_36, k_40, k_41, k_42, k_43, k_49, k_64, k_80, k_96, k_97, k_100, k_109, k_110, k_127, k_128, k_146, k_147, k_160, k_2304, k_4608, k_13824, nI_add, pk_mul, pk_sub, nI_clamp, q_in, nI_ltI, nI_leI, nI_eq, forall_eq, e_shl, e_bit, e_b0, e_b1, e_bn, e_andn, fa_or, fa_and, e_m1, e_nneg]
    repeat (first | refine And.intro (fun hh => absurd hh (by omega)) (fun _ => ?_) | refine And.intro (fun _ => ?_) (fun hh => absurd hh (by omega)) | refine And.intro (by omega) ?_)
    refine for_X0_isConnected_L21 _ _ _ _ _ (k) (fun j g => ∃ G, g = nI G ∧ ∀ y, G.testBit y = true ↔ R.testBit y = true ∨ (S.testBit y = true ∧ ∃ x, x < j ∧ R.testBit x = true ∧ ind fr x y = false)) ?_ ?_ (0) _ _ rfl (Nat.zero_le _) (⟨R, rfl, fun y => ⟨Or.inl, fun h => by rcases h with h | ⟨-, x, hx, -⟩; exact h; exact absurd hx (Nat.not_lt_zero _)⟩⟩)
    · rintro again2 j g hj ⟨G, rfl, hG⟩ hag2
      unfold wp_X0_isConnected_L21
      try simp (disch := omega) only [k_0, k_1, k_2, k_3, k_4, k_6, k_7, k_10, k_11, k_12, k_13, k_14, k_16, k_32, k_36, k_40, k_41, k_42, k_43, k_49, k_64, k_80, k_96, k_97, k_100, k_109, k_110, k_127, k_128, k_146, k_147, k_160, k_2304, k_4608, k_13824, nI_add, pk_mul, pk_sub, nI_clamp, q_in, nI_ltI, nI_leI, nI_eq, forall_eq, e_shl, e_bit, e_b0, e_b1, e_bn, e_andn, fa_or, fa_and, e_m1, e_nneg]
      repeat (first | refine And.intro (fun hh => absurd hh (by omega)) (fun _ => ?_) | refine And.intro (fun _ => ?_) (fun hh => absurd hh (by omega)) | refine And.intro (by omega) ?_)
      refine ⟨fun hb => hag2 _ ⟨G, rfl, fun y => ?_⟩, fun hb => s_freeOf hf (by omega) ?_⟩
      · rw [hG]
        constructor
        · rintro (q | ⟨q, x, a, b, c⟩)
          · exact Or.inl q
          · exact Or.inr ⟨q, x, by omega, b, c⟩
        · rintro (q | ⟨q, x, a, b, c⟩)
          · exact Or.inl q
          · by_cases e : x = j
            · subst e; rw [hb] at b; cases b
            · exact Or.inr ⟨q, x, by omega, b, c⟩
      · try simp (disch := omega) only [k_0, k_1, k_2, k_3, k_4, k_6, k_7, k_10, k_11, k_12, k_13, k_14, k_16, k_32, k_36, k_40, k_41, k_42, k_43, k_49, k_64, k_80, k_96, k_97, k_100, k_109, k_110, k_127, k_128, k_146, k_147, k_160, k_2304, k_4608, k_13824, nI_add, pk_mul, pk_sub, nI_clamp, q_in, nI_ltI, nI_leI, nI_eq, forall_eq, e_shl, e_bit, e_b0, e_b1, e_bn, e_andn, fa_or, fa_and, e_m1, e_nneg]
        refine hag2 _ ⟨_, rfl, fun y => ?_⟩
        rw [Nat.testBit_or, Bool.or_eq_true, hG, andn_bit, Bool.and_eq_true, Bool.not_eq_true']
        constructor
        · rintro ((q | ⟨q, x, a, b, c⟩) | ⟨a, b⟩)
          · exact Or.inl q
          · exact Or.inr ⟨q, x, by omega, b, c⟩
          · exact Or.inr ⟨a, j, by omega, hb, b⟩
        · rintro (q | ⟨q, x, a, b, c⟩)
          · exact Or.inl (Or.inl q)
          · by_cases e : x = j
            · subst e; exact Or.inr ⟨q, c⟩
            · exact Or.inl (Or.inr ⟨q, x, by omega, b, c⟩)
    · rintro again2 g ⟨G, rfl, hG⟩
      unfold wp_X0_isConnected_L21
      try simp (disch := omega) only [k_0, k_1, k_2, k_3, k_4, k_6, k_7, k_10, k_11, k_12, k_13, k_14, k_16, k_32, k_36, k_40, k_41, k_42, k_43, k_49, k_64, k_80, k_96, k_97, k_100, k_109, k_110, k_127, k_128, k_146, k_147, k_160, k_2304, k_4608, k_13824, nI_add, pk_mul, pk_sub, nI_clamp, q_in, nI_ltI, nI_leI, nI_eq, forall_eq, e_shl, e_bit, e_b0, e_b1, e_bn, e_andn, fa_or, fa_and, e_m1, e_nneg]
      repeat (first | refine And.intro (fun hh => absurd hh (by omega)) (fun _ => ?_) | refine And.intro (fun _ => ?_) (fun hh => absurd hh (by omega)) | refine And.intro (by omega) ?_)
      have gR : subm R G := fun y hy => (hG y).mpr (Or.inl hy)
      refine hag _ ⟨G, rfl, fun y hy => gR y (h1 y hy), fun y hy => ?_, fun C hC1 hC2 y hy => ?_, ?_⟩
      · rcases (hG y).mp hy with q | ⟨q, -⟩
        · exact h2 y q
        · exact q
      · rcases (hG y).mp hy with q | ⟨q, x, a, b, c⟩
        · exact h3 C hC1 hC2 y q
        · exact hC2.2 x y (h3 C hC1 hC2 x b) q c
      · by_cases hcl : Cl fr S R
        · have e : G = R := subm.eq (fun y hy => by
            rcases (hG y).mp hy with q | ⟨q, x, a, b, c⟩
            · exact q
            · exact hcl.2 x y b q c) gR
          rw [e]
          exact Or.inl hcl
        · refine Or.inr ?_
          have h5 : i + 1 ≤ pop R k := by
            rcases h4 with q | q
            · exact absurd q hcl
            · exact q
          have h6 : ∃ j, j < k ∧ G.testBit j = true ∧ R.testBit j = false := by
            apply Classical.byContradiction
            intro hno
            refine hcl ⟨h2, fun x y hx hy hi2 => ?_⟩
            have hxk := tb_of_lt hS (h2 x hx)
            have hyk := tb_of_lt hS hy
            cases hR : R.testBit y with
            | true => rfl
            | false => exact absurd ⟨y, hyk, (hG y).mpr (Or.inr ⟨hy, x, hxk, hx, hi2⟩), hR⟩ hno
          have := pop_lt gR h6
          omega
  · rintro again x ⟨R, rfl, h1, h2, h3, h4⟩
    have hcl : Cl fr S R := by
      rcases h4 with q | q
      · exact q
      · have := pop_le R k
        omega
    have e := con_eq (show LF fr S R from ⟨h1, hcl, h3⟩)
    have hR : R < 2 ^ 32 := Nat.lt_of_lt_of_le (h2.lt hS) (Nat.pow_le_pow_right (by decide) (by omega))
    rw [e] at hK
    have hR64 : R < 64 := lt64 (h2.lt hS) hk
    unfold wp_X0_isConnected_L7
    try simp (disch := omega) only [k_0, k_1, k_2, k_3, k_4, k_6, k_7, k_10, k_11, k_12, k_13, k_14, k_16, k_32, k_36, k_40, k_41, k_42, k_43, k_49, k_64, k_80, k_96, k_97, k_100, k_109, k_110, k_127, k_128, k_146, k_147, k_160, k_2304, k_4608, k_13824, nI_add, pk_mul, pk_sub, nI_clamp, q_in, nI_ltI, nI_leI, nI_eq, forall_eq, e_shl, e_bit, e_b0, e_b1, e_bn, e_andn, fa_or, fa_and, e_m1, e_nneg]
    repeat (first | refine And.intro (fun hh => absurd hh (by omega)) (fun _ => ?_) | refine And.intro (fun _ => ?_) (fun hh => absurd hh (by omega)) | refine And.intro (by omega) ?_)
    refine ⟨fun q => ?_, fun q => ?_⟩
    · rw [decide_eq_false q] at hK; exact hK
    · rw [decide_eq_true q] at hK; exact hK
  · by_cases h0 : S = 0
    · subst h0
      exact Or.inl ⟨t5, fun x y _ hy => by simp at hy⟩
    · refine Or.inr ?_
      have := pop_pos (t5.lt hS) (fun e => h0 (t3 e))
      omega
theorem s_connR {v : Nat → Int32} {fr : Nat → Nat} {k : Nat} (irr : ∀ a, ind fr a a = false) (sym : ∀ a b, ind fr a b = ind fr b a) (hv0 : v 0 = nI k) (hf : FV v fr) (hk : k ≤ 6) {S : Nat} (hS : S < 2 ^ k) {K : Int32 → Prop} (hK : K (bI (con fr S))) : wp_X11_isConnected v (nI S) K := by
  have hS64 := lt64 hS hk
  obtain ⟨t1, t2, t3, t4⟩ := low_tab S hS64
  have t5 := low_sub hS64
  unfold wp_X11_isConnected
  rw [t1]
  refine nm_e ?_
  refine lp_X11_isConnected_L7_of _ _ _ (fun x y => ∃ M O, x = nI M ∧ y = nI O ∧ O < 64 ∧ subm (lowS S) M ∧ subm M S ∧ (∀ C, subm (lowS S) C → Cl fr S C → subm M C) ∧ (O = M → Cl fr S M)) (fun x y => 2 * (64 - x.toNatClampNeg) + (if y = x then 0 else 1)) ?_ _ _ (⟨lowS S, 0, rfl, rfl, by decide, fun _ h => h, t5, fun C h _ => h, fun q => ⟨t5, fun x y _ hy => by rw [t3 q.symm] at hy; simp at hy⟩⟩)
  rintro again x y ⟨M, O, rfl, rfl, hO, h1, h2, h3, h4⟩ hag
  have hM64 : M < 64 := lt64 (h2.lt hS) hk
  unfold wp_X11_isConnected_L7
  try simp (disch := omega) only [k_0, k_1, k_2, k_3, k_4, k_6, k_7, k_10, k_11, k_12, k_13, k_14, k_16, k_32, k_36, k_40, k_41, k_42, k_43, k_49, k_64, k_80, k_96, k_97, k_100, k_109, k_110, k_127, k_128, k_146, k_147, k_160, k_2304, k_4608, k_13824, nI_add, pk_mul, pk_sub, nI_clamp, q_in, nI_ltI, nI_leI, nI_eq, forall_eq, e_shl, e_bit, e_b0, e_b1, e_bn, e_andn, fa_or, fa_and, e_m1, e_nneg]
  refine ⟨fun q => ?_, fun q => ?_⟩
  · have e := con_eq (show LF fr S M from ⟨h1, h4 q, h3⟩)
    rw [e] at hK
    refine ⟨fun q => ?_, fun q => ?_⟩
    · rw [decide_eq_false q] at hK; exact hK
    · rw [decide_eq_true q] at hK; exact hK
  · refine for_X11_isConnected_L17 _ _ _ (k) (fun i x => ∃ M', x = nI M' ∧ subm M M' ∧ subm M' S ∧ (∀ C, subm (lowS S) C → Cl fr S C → subm M' C) ∧ (M' = M → ∀ x, x < i → S.testBit x = true → (∃ y, M.testBit y = true ∧ ind fr x y = false) → M.testBit x = true)) ?_ ?_ (0) _ _ rfl (Nat.zero_le _) (⟨M, rfl, fun _ h => h, h2, h3, fun _ x hx => absurd hx (Nat.not_lt_zero _)⟩)
    · rintro again2 i x hi ⟨M', rfl, g1, g2, g3, g4⟩ hag2
      have hM' : M' < 64 := lt64 (g2.lt hS) hk
      have keep : (S.testBit i = true → ¬ ∃ y, M'.testBit y = true ∧ ind fr i y = false) → again2 (nI M') (nI (i + 1)) := fun hno => hag2 _ ⟨M', rfl, g1, g2, g3, fun e x hx hx2 hx3 => by
        by_cases ex : x = i
        · subst ex
          rw [← e] at hx3
          exact absurd hx3 (hno hx2)
        · exact g4 e x (by omega) hx2 hx3⟩
      have add : S.testBit i = true → (∃ y, M'.testBit y = true ∧ ind fr i y = false) → again2 (nI (M' ||| 2 ^ i)) (nI (i + 1)) := by
        rintro hSi ⟨y, hy, hy2⟩
        refine hag2 _ ⟨_, rfl, fun j hj => ?_, fun j hj => ?_, fun C hC1 hC2 j hj => ?_, fun e x hx hx2 hx3 => ?_⟩
        · rw [tb_or2, g1 j hj]; rfl
        · rw [tb_or2, Bool.or_eq_true, decide_eq_true_eq] at hj
          rcases hj with q | q
          · exact g2 j q
          · rw [q]; exact hSi
        · rw [tb_or2, Bool.or_eq_true, decide_eq_true_eq] at hj
          rcases hj with q | q
          · exact g3 C hC1 hC2 j q
          · rw [q]; exact hC2.2 y i (g3 C hC1 hC2 y hy) hSi (by rw [sym]; exact hy2)
        · have e2 : M' = M := subm.eq (fun j hj => by rw [← e, tb_or2, hj]; rfl) g1
          by_cases ex : x = i
          · subst ex; rw [← e, tb_or2]; simp
          · exact g4 e2 x (by omega) hx2 hx3
      have dep : andn M' (fr i) = 0 ↔ ¬ ∃ y, M'.testBit y = true ∧ ind fr i y = false := by
        rw [andn_zero]
        constructor
        · rintro h ⟨y, a, b⟩
          have := h y a
          rw [show (fr i).testBit y = false from b] at this
          cases this
        · intro h y hy
          cases e : (fr i).testBit y with
          | true => rfl
          | false => exact absurd ⟨y, hy, e⟩ h
      unfold wp_X11_isConnected_L17 wp_X11_isConnected_J49
      try simp (disch := omega) only [k_0, k_1, k_2, k_3, k_4, k_6, k_7, k_10, k_11, k_12, k_13, k_14, k_16, k_32, k_36, k_40, k_41, k_42, k_43, k_49, k_64, k_80, k_96, k_97, k_100, k_109, k_110, k_127, k_128, k_146, k_147, k_160, k_2304, k_4608, k_13824, nI_add, pk_mul, pk_sub, nI_clamp, q_in, nI_ltI, nI_leI, nI_eq, forall_eq, e_shl, e_bit, e_b0, e_b1, e_bn, e_andn, fa_or, fa_and, e_m1, e_nneg]
      rw [hv0, hf i (by omega)]
      try simp (disch := omega) only [k_0, k_1, k_2, k_3, k_4, k_6, k_7, k_10, k_11, k_12, k_13, k_14, k_16, k_32, k_36, k_40, k_41, k_42, k_43, k_49, k_64, k_80, k_96, k_97, k_100, k_109, k_110, k_127, k_128, k_146, k_147, k_160, k_2304, k_4608, k_13824, nI_add, pk_mul, pk_sub, nI_clamp, q_in, nI_ltI, nI_leI, nI_eq, forall_eq, e_shl, e_bit, e_b0, e_b1, e_bn, e_andn, fa_or, fa_and, e_m1, e_nneg]
      repeat (first | refine And.intro (fun hh => absurd hh (by omega)) (fun _ => ?_) | refine And.intro (fun _ => ?_) (fun hh => absurd hh (by omega)) | refine And.intro (by omega) ?_)
      have ha : andn M' (fr i) < 2 ^ 32 := Nat.lt_of_lt_of_le (andn_lt (k := 6) hM') (by decide)
      rw [nI_eq (Nat.lt_of_lt_of_le (andn_lt (k := 6) hM') (by decide)) (by decide), dep, Nat.or_zero]
      refine ⟨fun hd => ⟨fun _ => keep (fun _ => hd), fun hSi => br_t (by decide) (keep (fun _ => hd))⟩, fun hd => ⟨fun hSi => keep (fun h => absurd h hSi), fun hSi => br_f (by decide) (add hSi (Classical.not_not.mp hd))⟩⟩
    · rintro again2 x ⟨M', rfl, g1, g2, g3, g4⟩
      have hM' : M' < 64 := lt64 (g2.lt hS) hk
      unfold wp_X11_isConnected_L17
      try simp (disch := omega) only [k_0, k_1, k_2, k_3, k_4, k_6, k_7, k_10, k_11, k_12, k_13, k_14, k_16, k_32, k_36, k_40, k_41, k_42, k_43, k_49, k_64, k_80, k_96, k_97, k_100, k_109, k_110, k_127, k_128, k_146, k_147, k_160, k_2304, k_4608, k_13824, nI_add, pk_mul, pk_sub, nI_clamp, q_in, nI_ltI, nI_leI, nI_eq, forall_eq, e_shl, e_bit, e_b0, e_b1, e_bn, e_andn, fa_or, fa_and, e_m1, e_nneg]
      rw [hv0]
      try simp (disch := omega) only [k_0, k_1, k_2, k_3, k_4, k_6, k_7, k_10, k_11, k_12, k_13, k_14, k_16, k_32, k_36, k_40, k_41, k_42, k_43, k_49, k_64, k_80, k_96, k_97, k_100, k_109, k_110, k_127, k_128, k_146, k_147, k_160, k_2304, k_4608, k_13824, nI_add, pk_mul, pk_sub, nI_clamp, q_in, nI_ltI, nI_leI, nI_eq, forall_eq, e_shl, e_bit, e_b0, e_b1, e_bn, e_andn, fa_or, fa_and, e_m1, e_nneg]
      repeat (first | refine And.intro (fun hh => absurd hh (by omega)) (fun _ => ?_) | refine And.intro (fun _ => ?_) (fun hh => absurd hh (by omega)) | refine And.intro (by omega) ?_)
      have mono : M ≤ M' := by
        have e : M &&& M' = M := by
          apply Nat.eq_of_testBit_eq
          intro j
          rw [Nat.testBit_and]
          cases hM : M.testBit j with
          | true => rw [g1 j hM]; rfl
          | false => rfl
        rw [← e]
        exact Nat.and_le_right
      refine hag _ _ ⟨M', M, rfl, rfl, hM64, fun j hj => g1 j (h1 j hj), g2, g3, fun e => ⟨g2, fun x y hx hy hxy => ?_⟩⟩ ?_
      · rw [← e] at hx ⊢
        have hyk := tb_of_lt hS hy
        exact g4 e.symm y hyk hy ⟨x, hx, by rw [sym]; exact hxy⟩
      · have eO : ¬ nI O = nI M := by rw [nI_eq (by omega) (by omega)]; exact q
        rw [nI_clamp (by omega), nI_clamp (by omega), if_neg eO]
        by_cases e : M = M'
        · subst e; rw [if_pos rfl]; omega
        · split <;> omega
theorem s_lettersR {v : Nat → Int32} {w : Nat} {u : List Nat} (hw : w < 6) (h : WV v w u) (hu : ∀ x ∈ u, x < 6) {K : Int32 → Prop} (hK : K (nI (lset u u.length))) : wp_X11_letters v (nI w) K := by
  have h16 := h.2.1
  unfold wp_X11_letters
  refine for_X11_letters_L4 _ _ _ (u.length) (fun i x => x = nI (lset u i)) ?_ ?_ (0) _ _ rfl (Nat.zero_le _) (rfl)
  · rintro again i x hi rfl hag
    have ui := hu _ (getD_mem hi)
    unfold wp_X11_letters_L4
    try simp (disch := omega) only [k_0, k_1, k_2, k_3, k_4, k_6, k_7, k_10, k_11, k_12, k_13, k_14, k_16, k_32, k_36, k_40, k_41, k_42, k_43, k_49, k_64, k_80, k_96, k_97, k_100, k_109, k_110, k_127, k_128, k_146, k_147, k_160, k_2304, k_4608, k_13824, nI_add, pk_mul, pk_sub, nI_clamp, q_in, nI_ltI, nI_leI, nI_eq, forall_eq, e_shl, e_bit, e_b0, e_b1, e_bn, e_andn, fa_or, fa_and, e_m1, e_nneg]
    rw [h.1, h.2.2 i hi]
    try simp (disch := omega) only [k_0, k_1, k_2, k_3, k_4, k_6, k_7, k_10, k_11, k_12, k_13, k_14, k_16, k_32, k_36, k_40, k_41, k_42, k_43, k_49, k_64, k_80, k_96, k_97, k_100, k_109, k_110, k_127, k_128, k_146, k_147, k_160, k_2304, k_4608, k_13824, nI_add, pk_mul, pk_sub, nI_clamp, q_in, nI_ltI, nI_leI, nI_eq, forall_eq, e_shl, e_bit, e_b0, e_b1, e_bn, e_andn, fa_or, fa_and, e_m1, e_nneg]
    repeat (first | refine And.intro (fun hh => absurd hh (by omega)) (fun _ => ?_) | refine And.intro (fun _ => ?_) (fun hh => absurd hh (by omega)) | refine And.intro (by omega) ?_)
    exact hag _ rfl
  · rintro again x rfl
    unfold wp_X11_letters_L4
    try simp (disch := omega) only [k_0, k_1, k_2, k_3, k_4, k_6, k_7, k_10, k_11, k_12, k_13, k_14, k_16, k_32, k_36, k_40, k_41, k_42, k_43, k_49, k_64, k_80, k_96, k_97, k_100, k_109, k_110, k_127, k_128, k_146, k_147, k_160, k_2304, k_4608, k_13824, nI_add, pk_mul, pk_sub, nI_clamp, q_in, nI_ltI, nI_leI, nI_eq, forall_eq, e_shl, e_bit, e_b0, e_b1, e_bn, e_andn, fa_or, fa_and, e_m1, e_nneg]
    rw [h.1]
    try simp (disch := omega) only [k_0, k_1, k_2, k_3, k_4, k_6, k_7, k_10, k_11, k_12, k_13, k_14, k_16, k_32, k_36, k_40, k_41, k_42, k_43, k_49, k_64, k_80, k_96, k_97, k_100, k_109, k_110, k_127, k_128, k_146, k_147, k_160, k_2304, k_4608, k_13824, nI_add, pk_mul, pk_sub, nI_clamp, q_in, nI_ltI, nI_leI, nI_eq, forall_eq, e_shl, e_bit, e_b0, e_b1, e_bn, e_andn, fa_or, fa_and, e_m1, e_nneg]
    repeat (first | refine And.intro (fun hh => absurd hh (by omega)) (fun _ => ?_) | refine And.intro (fun _ => ?_) (fun hh => absurd hh (by omega)) | refine And.intro (by omega) ?_)
    exact hK
theorem M_connected {A_now_alphabet_count : Int32} {A_now_alphabet_free : Nat → Int32} {A_now_words_size : Nat → Int32} {A_now_words_letters : Nat → Nat → Int32} {A_now_recogniser_states : Int32} {A_now_recogniser_accepting : Int32} {A_now_recogniser_arrows : Nat → Int32} {B_v : Nat → Int32} (x1 : Int32) (hR : REL A_now_alphabet_count A_now_alphabet_free A_now_words_size A_now_words_letters A_now_recogniser_states A_now_recogniser_accepting A_now_recogniser_arrows B_v) {K : Int32 → Prop} (hK : ∀ (r : Int32), (∀ Q : Int32 → Prop, (Q r) → wp_X11_connected B_v x1 Q) → K r) : wp_X10_connected A_now_alphabet_count A_now_alphabet_free A_now_words_size A_now_words_letters x1 K := by
  have hR0 := hR
  obtain ⟨k, fr, W, n, ar, ac, hS, hA, hB⟩ := hR
  have hS0 := hS
  have hA0 := hA
  have hB0 := hB
  obtain ⟨hFR, hWS, hn1, hn6, har, hacl⟩ := hS
  obtain ⟨rfl, hF, hW, rfl, rfl, hAr⟩ := hA
  obtain ⟨hk0, hV, hWV, hn0, hac0, hArV, hAr6⟩ := hB
  have hk6 := hFR.2.1
  have hk2 := hFR.1
  have irr := hFR.irr
  have sym := hFR.sym
  unfold wp_X10_connected
  rcases in_cases x1 (n := 6) (by omega) with ⟨w, hw, rfl⟩ | hx
  · have ws1 := (hW w hw).1
    have wr1 := hW w hw
    rw [ws1] at wr1
    have wv1 := hWV w hw
    obtain ⟨l161, lk1⟩ := hWS w hw
    have lk61 : ∀ x ∈ W w, x < 6 := fun x h => Nat.lt_of_lt_of_le (lk1 x h) hk6
    have hl := lset_lt lk1 (W w).length (Nat.le_refl _)
    refine s_word hw ?_
    (first | refine br_t (by decide) ?_ | refine br_f (by decide) ?_ | refine br_t' (by decide) ?_ | refine br_f' (by decide) ?_)
    try simp (disch := omega) only [k_0, k_1, k_2, k_3, k_4, k_6, k_7, k_10, k_11, k_12, k_13, k_14, k_16, k_32, k_36, k_40, k_41, k_42, k_43, k_49, k_64, k_80, k_96, k_97, k_100, k_109, k_110, k_127, k_128, k_146, k_147, k_160, k_2304, k_4608, k_13824, nI_add, pk_mul, pk_sub, nI_clamp, q_in, nI_ltI, nI_leI, nI_eq, forall_eq, e_shl, e_bit, e_b0, e_b1, e_bn, e_andn, fa_or, fa_and, e_m1, e_nneg]
    rw [ws1]
    refine ⟨hw, s_letterSet wr1 lk61 (s_conn irr hF hk6 hl (s_num _ ?_))⟩
    apply hK
    intro Q hQ
    unfold wp_X11_connected
    refine s_isWord hw ?_
    (first | refine br_t (by decide) ?_ | refine br_f (by decide) ?_ | refine br_t' (by decide) ?_ | refine br_f' (by decide) ?_)
    refine s_lettersR hw wv1 lk61 (s_connR irr sym hk0 hV hk6 hl ?_)
    cases hc : con fr (lset (W w) (W w).length)
    · rw [hc] at hQ; exact br_t (by decide) hQ
    · rw [hc] at hQ; exact br_f (by decide) hQ
  · refine s_wordN hx ?_
    (first | refine br_t (by decide) ?_ | refine br_f (by decide) ?_ | refine br_t' (by decide) ?_ | refine br_f' (by decide) ?_)
    apply hK
    intro Q hQ
    unfold wp_X11_connected
    refine s_isWordN hx ?_
    (first | refine br_t (by decide) ?_ | refine br_f (by decide) ?_ | refine br_t' (by decide) ?_ | refine br_f' (by decide) ?_)
    first | (apply hQ; done) | (apply hQ; exact hR0)
