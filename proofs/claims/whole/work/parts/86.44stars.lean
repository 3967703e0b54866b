/-! the sets of letters of a form; stars over connected ones; the least length -/
noncomputable def aval (nd : ND) (f : Nat → Nat) : Nat := if nd.1 < 10 then 2 ^ (2 ^ nd.1) else if nd.1 = 10 then 1 else if nd.1 = 11 then unM (f nd.2.1) (f nd.2.2) else if nd.1 = 12 then f nd.2.1 ||| f nd.2.2 else gnM (f nd.2.1)
noncomputable def AT (ns : List ND) : Nat → Nat → Nat
  | 0 => fun _ => 0
  | j + 1 => fun a => if a = j then aval (ndAt ns j) (AT ns j) else AT ns j a
theorem AT_s (ns : List ND) (j a : Nat) : AT ns (j + 1) a = if a = j then aval (ndAt ns j) (AT ns j) else AT ns j a := rfl
theorem aval_l {sg l r : Nat} {f : Nat → Nat} (h : sg < 10) : aval (sg, l, r) f = 2 ^ (2 ^ sg) := if_pos h
theorem aval_10 {l r : Nat} {f : Nat → Nat} : aval (10, l, r) f = 1 := by simp [aval]
theorem aval_11 {l r : Nat} {f : Nat → Nat} : aval (11, l, r) f = unM (f l) (f r) := by simp [aval]
theorem aval_12 {l r : Nat} {f : Nat → Nat} : aval (12, l, r) f = f l ||| f r := by simp [aval]
theorem aval_13 {l r : Nat} {f : Nat → Nat} : aval (13, l, r) f = gnM (f l) := by simp [aval]
theorem nd_cases {k n : Nat} {ns : List ND} {S : List Nat} (hk : k ≤ 6) (hsg : sgOK k ns) (hst : stk ns n = some S) (hl : n ≤ ns.length) {j : Nat} (hj : j < n) : ∃ sg l r, ndAt ns j = (sg, l, r) ∧ (sg < k ∨ sg = 10 ∨ (sg = 11 ∧ l < j ∧ r < j) ∨ (sg = 12 ∧ l < j ∧ r < j) ∨ (sg = 13 ∧ l < j)) := by
  obtain ⟨S', h'⟩ := stk_pre hst (j + 1) hj
  obtain ⟨T, hT, h⟩ := stk_node h'
  have hlt := stk_lt hT
  have hm : ndAt ns j ∈ ns := by
    unfold ndAt
    have hjl : j < ns.length := by omega
    rw [List.getD_eq_getElem?_getD, List.getElem?_eq_getElem hjl]
    exact List.getElem_mem hjl
  have h0 := hsg _ hm
  refine ⟨(ndAt ns j).1, (ndAt ns j).2.1, (ndAt ns j).2.2, rfl, ?_⟩
  rcases h with ⟨q, -⟩ | ⟨q, T', e, -⟩ | ⟨q1, q2, T', e, -⟩
  · rcases h0 with g | ⟨g, -⟩
    · exact Or.inl g
    · exact Or.inr (Or.inl (by omega))
  · have := hlt (ndAt ns j).2.1 (by rw [e]; exact List.mem_cons_self)
    exact Or.inr (Or.inr (Or.inr (Or.inr ⟨q, this⟩)))
  · have a1 := hlt (ndAt ns j).2.2 (by rw [e]; exact List.mem_cons_self)
    have a2 := hlt (ndAt ns j).2.1 (by rw [e]; exact List.mem_cons_of_mem _ List.mem_cons_self)
    rcases h0 with g | ⟨g1, g2⟩
    · omega
    · by_cases g : (ndAt ns j).1 = 11
      · exact Or.inr (Or.inr (Or.inl ⟨g, a2, a1⟩))
      · exact Or.inr (Or.inr (Or.inr (Or.inl ⟨by omega, a2, a1⟩)))
theorem AT_bits {k n : Nat} {ns : List ND} {S : List Nat} (hk : k ≤ 6) (hsg : sgOK k ns) (hst : stk ns n = some S) (hl : n ≤ ns.length) : ∀ j, j ≤ n → ∀ a t, (AT ns j a).testBit t = true → t < 2 ^ k
  | 0, _, a, t, h => by
    rw [show AT ns 0 a = 0 from rfl, Nat.zero_testBit] at h
    cases h
  | j + 1, hj, a, t, h => by
    have ih := AT_bits hk hsg hst hl j (by omega)
    rw [AT_s] at h
    split at h
    · obtain ⟨sg, l, r, e, hc⟩ := nd_cases hk hsg hst hl hj
      have p := Nat.two_pow_pos k
      rw [e] at h
      rcases hc with g | g | ⟨g, -, -⟩ | ⟨g, -, -⟩ | ⟨g, -⟩
      · rw [aval_l (by omega), Nat.testBit_two_pow] at h
        have := of_decide_eq_true h
        rw [← this]
        exact Nat.pow_lt_pow_right (by decide) g
      · subst g
        rw [aval_10] at h
        have := tb_of_lt (n := 1) (k := 1) (by decide) h
        omega
      · subst g
        rw [aval_11, unM_bit] at h
        obtain ⟨x, y, -, -, h1, h2, rfl⟩ := h
        exact or_lt (ih _ _ h1) (ih _ _ h2)
      · subst g
        rw [aval_12, Nat.testBit_or, Bool.or_eq_true] at h
        rcases h with h | h
        · exact ih _ _ h
        · exact ih _ _ h
      · subst g
        rw [aval_13, gnM_bit] at h
        exact h (fun t => t < 2 ^ k) p (fun x s _ hb hs => or_lt hs (ih _ _ hb))
    · exact ih _ _ h
theorem AT_64 {k n : Nat} {ns : List ND} {S : List Nat} (hk : k ≤ 6) (hsg : sgOK k ns) (hst : stk ns n = some S) (hl : n ≤ ns.length) {j : Nat} (hj : j ≤ n) (a : Nat) : AT ns j a < 2 ^ 64 := tb_lt (fun t ht => lt64 (AT_bits hk hsg hst hl j hj a t ht) hk)
def SF (fr : Nat → Nat) (ns : List ND) (j : Nat) : Prop := ∀ i, i < j → (ndAt ns i).1 = 13 → ∀ t, (AT ns i (ndAt ns i).2.1).testBit t = true → con fr t = true
theorem SF_s {fr : Nat → Nat} {ns : List ND} {j : Nat} : SF fr ns (j + 1) ↔ SF fr ns j ∧ ((ndAt ns j).1 = 13 → ∀ t, (AT ns j (ndAt ns j).2.1).testBit t = true → con fr t = true) := by
  constructor
  · intro h
    exact ⟨fun i hi => h i (by omega), h j (by omega)⟩
  · rintro ⟨h1, h2⟩ i hi
    by_cases e : i = j
    · subst e; exact h2
    · exact h1 i (by omega)
theorem cl_congr {P Q : Prop} (h : P ↔ Q) : cl P = cl Q := by rw [propext h]
theorem cl_ff {P : Prop} (h : ¬ P) : cl P = false := by
  cases e : cl P with
  | false => rfl
  | true => exact absurd (cl_i.mp e) h
theorem lgc' {x y : Int64} : lg_cmp x y = nI 0 ↔ x = y := lgc
theorem s_setsAny {N : Nat} (hN : N ≤ 160) {ls : Nat → Int64} {x : Int32} (hx : x = -1 ∨ ∃ a, a < 160 ∧ x = nI a) {K : Int64 → Prop} (hK : ∀ r, K r) : wp_X8_setsOf (nI N) ls x K := by
  unfold wp_X8_setsOf wp_X8_isNode
  rcases hx with rfl | ⟨a, ha, rfl⟩
  · exact br_t (by decide) (br_t rfl (hK _))
  · refine br_f (by rw [k_0, nI_ltI (by omega) (by omega)]; omega) ⟨fun _ => br_t rfl (hK _), fun _ => br_f (by rw [k_160, nI_leI (by omega) (by omega)]; omega) (br_f (by decide) ⟨(q_in (by omega)).mpr ha, hK _⟩)⟩
theorem s_setsN {N a v : Nat} (hN : N ≤ 160) (ha : a < N) {ls : Nat → Int64} (h : ls a = lN v) {K : Int64 → Prop} (hK : K (lN v)) : wp_X8_setsOf (nI N) ls (nI a) K := by
  unfold wp_X8_setsOf
  refine s_isNode hN ha (br_f (by decide) ⟨(q_in (by omega)).mpr (by omega), ?_⟩)
  rw [nI_clamp (by omega), h]
  exact hK
theorem s_setsL {N k sg l r j : Nat} {f : Nat → Nat} {ls : Nat → Int64} (hN : N ≤ 160) (hk : k ≤ 6) (hc : sg < k ∨ sg = 10 ∨ (sg = 11 ∧ l < j ∧ r < j) ∨ (sg = 12 ∧ l < j ∧ r < j) ∨ (sg = 13 ∧ l < j)) (hj : j < N) (h1 : ∀ a, a < j → ls a = lN (f a)) {K : Int64 → Prop} (hK : ∀ x, (11 ≤ sg → x = lN (f l)) → K x) : wp_X8_setsOf (nI N) ls (lcd (sg, l, r)) K := by
  rcases hc with g | g | ⟨g, gl, gr⟩ | ⟨g, gl, gr⟩ | ⟨g, gl⟩
  · rw [show lcd (sg, l, r) = nI sg from if_pos (show sg < 10 by omega)]
    exact s_setsAny hN (Or.inr ⟨sg, by omega, rfl⟩) (fun x => hK x (fun q => by omega))
  · subst g
    rw [show lcd (10, l, r) = -1 from rfl]
    exact s_setsAny hN (Or.inl rfl) (fun x => hK x (fun q => absurd q (by decide)))
  · subst g
    rw [show lcd (11, l, r) = nI l from rfl]
    exact s_setsN hN (by omega) (h1 l gl) (hK _ (fun _ => rfl))
  · subst g
    rw [show lcd (12, l, r) = nI l from rfl]
    exact s_setsN hN (by omega) (h1 l gl) (hK _ (fun _ => rfl))
  · subst g
    rw [show lcd (13, l, r) = nI l from rfl]
    exact s_setsN hN (by omega) (h1 l gl) (hK _ (fun _ => rfl))
theorem s_setsR {N k sg l r j : Nat} {f : Nat → Nat} {ls : Nat → Int64} (hN : N ≤ 160) (hk : k ≤ 6) (hc : sg < k ∨ sg = 10 ∨ (sg = 11 ∧ l < j ∧ r < j) ∨ (sg = 12 ∧ l < j ∧ r < j) ∨ (sg = 13 ∧ l < j)) (hj : j < N) (h1 : ∀ a, a < j → ls a = lN (f a)) {K : Int64 → Prop} (hK : ∀ x, (sg = 11 ∨ sg = 12 → x = lN (f r)) → K x) : wp_X8_setsOf (nI N) ls (rcd (sg, l, r)) K := by
  rcases hc with g | g | ⟨g, gl, gr⟩ | ⟨g, gl, gr⟩ | ⟨g, gl⟩
  · rw [show rcd (sg, l, r) = -1 from if_neg (show ¬ (sg = 11 ∨ sg = 12) by omega)]
    exact s_setsAny hN (Or.inl rfl) (fun x => hK x (fun q => by omega))
  · subst g
    rw [show rcd (10, l, r) = -1 from rfl]
    exact s_setsAny hN (Or.inl rfl) (fun x => hK x (fun q => absurd q (by decide)))
  · subst g
    rw [show rcd (11, l, r) = nI r from rfl]
    exact s_setsN hN (by omega) (h1 r gr) (hK _ (fun _ => rfl))
  · subst g
    rw [show rcd (12, l, r) = nI r from rfl]
    exact s_setsN hN (by omega) (h1 r gr) (hK _ (fun _ => rfl))
  · subst g
    rw [show rcd (13, l, r) = -1 from rfl]
    exact s_setsAny hN (Or.inl rfl) (fun x => hK x (fun q => absurd q (by decide)))
theorem pow6 {sg k : Nat} (h : sg < k) (hk : k ≤ 6) : 2 ^ sg < 64 := Nat.lt_of_lt_of_le (Nat.pow_lt_pow_right (by decide) h) (Nat.pow_le_pow_right (n := 2) (by decide) hk)
theorem s_joinSets {k sg l r j : Nat} {f : Nat → Nat} {x2 x4 : Int64} (hk : k ≤ 6) (hc : sg < k ∨ sg = 10 ∨ (sg = 11 ∧ l < j ∧ r < j) ∨ (sg = 12 ∧ l < j ∧ r < j) ∨ (sg = 13 ∧ l < j)) (hf : ∀ a, f a < 2 ^ 64) (h2 : 11 ≤ sg → x2 = lN (f l)) (h4 : sg = 11 ∨ sg = 12 → x4 = lN (f r)) {K : Int64 → Prop} (hK : K (lN (aval (sg, l, r) f))) : wp_X8_joinSets (nI (kcd sg)) (lcd (sg, l, r)) x2 x4 K := by
  unfold wp_X8_joinSets
  rcases hc with g | g | ⟨g, gl, gr⟩ | ⟨g, gl, gr⟩ | ⟨g, gl⟩
  · rw [show lcd (sg, l, r) = nI sg from if_pos (show sg < 10 by omega), show kcd sg = 1 from if_pos (show sg < 10 by omega)]
    refine ⟨fun _ => ?_, fun q => absurd q (by decide), fun q => absurd q (by decide), fun q => absurd q (by decide), fun q => absurd rfl q⟩
    rw [k_1, e_shl (by omega), l_1 (pow6 g hk)]
    rw [aval_l (by omega)] at hK
    exact hK
  · subst g
    rw [aval_10] at hK
    exact ⟨fun q => absurd q (by decide), fun q => absurd q (by decide), fun q => absurd q (by decide), fun q => absurd q (by decide), fun _ _ _ _ => hK⟩
  · subst g
    rw [h2 (by decide), h4 (Or.inl rfl)]
    rw [aval_11] at hK
    exact ⟨fun q => absurd q (by decide), fun q => absurd q (by decide), fun _ => s_unite (hf _) (hf _) hK, fun q => absurd q (by decide), fun _ _ q _ => absurd rfl q⟩
  · subst g
    rw [h2 (by decide), h4 (Or.inr rfl), l_or]
    rw [aval_12] at hK
    exact ⟨fun q => absurd q (by decide), fun _ => hK, fun q => absurd q (by decide), fun q => absurd q (by decide), fun _ q _ _ => absurd rfl q⟩
  · subst g
    rw [h2 (by decide)]
    rw [aval_13] at hK
    exact ⟨fun q => absurd q (by decide), fun q => absurd q (by decide), fun q => absurd q (by decide), fun _ => s_repeat (hf _) hK, fun _ _ _ q => absurd rfl q⟩
theorem s_stars8 {kd lf rt free : Nat → Int32} {ls0 : Nat → Int64} {fr : Nat → Nat} {k : Nat} {ns : List ND} {S : List Nat} (irr : ∀ a, ind fr a a = false) (hf : FA free fr) (hk : k ≤ 6) (hsg : sgOK k ns) (hst : stk ns ns.length = some S) (hl : ns.length ≤ 160) (hN : NDR kd lf rt ns) {K : Int32 → (Nat → Int64) → Prop} (hK : ∀ ls, K (bI (cl (SF fr ns ns.length))) ls) : wp_X8_hasConnectedStars (nI ns.length) kd lf rt ls0 (nI k) free K := by
  unfold wp_X8_hasConnectedStars
  refine s_connSets irr hf hk (fun M hM64 hM => ?_)
  refine for_X8_hasConnectedStars_L8 _ _ _ _ _ _ _ (ns.length) (fun j ls => (∀ a, a < j → ls a = lN (AT ns j a)) ∧ SF fr ns j) ?_ ?_ (0) _ _ rfl (Nat.zero_le _) (⟨fun a ha => absurd ha (Nat.not_lt_zero _), fun i hi => absurd hi (Nat.not_lt_zero _)⟩)
  · rintro again j ls hj ⟨h1, h2⟩ hag
    obtain ⟨sg, l, r, e, hc⟩ := nd_cases hk hsg hst (Nat.le_refl _) hj
    obtain ⟨n1, n2, n3⟩ := hN j hj
    rw [e] at n1 n2 n3
    have b64 : ∀ a, AT ns j a < 2 ^ 64 := fun a => AT_64 hk hsg hst (Nat.le_refl _) (Nat.le_of_lt hj) a
    have put : ∀ r4, r4 = lN (aval (sg, l, r) (AT ns j)) → (sg = 13 → ∀ t, (AT ns j l).testBit t = true → con fr t = true) → again (nI (j + 1)) (vp_updL ls j r4) := fun r4 hr hs => hag _ ⟨fun a ha => by
        rw [AT_s]
        by_cases q : a = j
        · subst q; rw [pk_uLs, if_pos rfl, hr, e]
        · rw [pk_uLn q, if_neg q]; exact h1 a (by omega), SF_s.mpr ⟨h2, by rw [e]; exact hs⟩⟩
    have next : ∀ kx kz x, (11 ≤ sg → x = lN (AT ns j l)) → (sg = 13 → ∀ t, (AT ns j l).testBit t = true → con fr t = true) → wp_X8_hasConnectedStars_J64 K again kx kz (nI ns.length) kd lf rt ls (nI j) x := by
      intro kx kz x hx hs
      unfold wp_X8_hasConnectedStars_J64
      try simp (disch := omega) only [k_0, k_1, k_2, k_3, k_4, k_6, k_7, k_10, k_11, k_12, k_13, k_14, k_16, k_32, k_36, k_40, k_41, k_42, k_43, k_49, k_64, k_80, k_96, k_97, k_100, k_109, k_110, k_127, k_128, k_146, k_147, k_160, k_2304, k_4608, k_13824, nI_add, pk_mul, pk_sub, nI_clamp, q_in, nI_ltI, nI_leI, nI_eq, forall_eq, e_shl, e_bit, e_b0, e_b1, e_bn, e_andn, fa_or, fa_and, e_m1, e_nneg]
      repeat (first | refine And.intro (fun hh => absurd hh (by omega)) (fun _ => ?_) | refine And.intro (fun _ => ?_) (fun hh => absurd hh (by omega)) | refine And.intro (by omega) ?_)
      rw [n1, n2, n3]
      refine s_setsR hl hk hc hj h1 (fun y hy => s_joinSets hk hc b64 hx hy ?_)
      try (refine ⟨by omega, ?_⟩)
      exact put _ rfl hs
    unfold wp_X8_hasConnectedStars_L8
    try simp (disch := omega) only [k_0, k_1, k_2, k_3, k_4, k_6, k_7, k_10, k_11, k_12, k_13, k_14, k_16, k_32, k_36, k_40, k_41, k_42, k_43, k_49, k_64, k_80, k_96, k_97, k_100, k_109, k_110, k_127, k_128, k_146, k_147, k_160, k_2304, k_4608, k_13824, nI_add, pk_mul, pk_sub, nI_clamp, q_in, nI_ltI, nI_leI, nI_eq, forall_eq, e_shl, e_bit, e_b0, e_b1, e_bn, e_andn, fa_or, fa_and, e_m1, e_nneg]
    repeat (first | refine And.intro (fun hh => absurd hh (by omega)) (fun _ => ?_) | refine And.intro (fun _ => ?_) (fun hh => absurd hh (by omega)) | refine And.intro (by omega) ?_)
    rw [n1, n2]
    refine s_setsL hl hk hc hj h1 (fun x hx => ⟨by omega, ?_⟩)
    by_cases g : sg = 13
    · subst g
      refine br_t' (show nI (kcd 13) = nI 4 by decide) ?_
      rw [hx (by decide), l_andn]
      simp only [lgc, lgc']
      have h0 : (lN (andn (AT ns j l) M) = 0) ↔ ∀ t, (AT ns j l).testBit t = true → con fr t = true := by
        have e0 : (0 : Int64) = lN 0 := rfl
        have hlt : andn (AT ns j l) M < 2 ^ 64 := tb_lt (fun t ht => by
          rw [andn_bit] at ht
          exact tb_of_lt (b64 l) (Bool.and_eq_true _ _ ▸ ht).1)
        rw [e0, lN_eq64 hlt (by decide)]
        constructor
        · intro q t ht
          have qt : (andn (AT ns j l) M).testBit t = false := by rw [q]; exact Nat.zero_testBit t
          rw [andn_bit, ht] at qt
          have : M.testBit t = true := by
            cases hm : M.testBit t with
            | true => rfl
            | false => rw [hm] at qt; cases qt
          exact ((hM t).mp this).2
        · intro q
          apply Nat.eq_of_testBit_eq
          intro t
          rw [andn_bit, Nat.zero_testBit]
          cases ht : (AT ns j l).testBit t with
          | false => rfl
          | true =>
            have := (hM t).mpr ⟨AT_bits hk hsg hst (Nat.le_refl _) j (Nat.le_of_lt hj) l t ht, q t ht⟩
            rw [this]; rfl
      refine ⟨fun q => next _ _ _ (fun _ => rfl) (fun _ => h0.mp q), fun q => ?_⟩
      have ne : ¬ SF fr ns ns.length := fun hs => by
        have := hs j hj (by rw [e])
        rw [e] at this
        exact q (h0.mpr this)
      have hk0 := hK ls
      rw [cl_ff ne] at hk0
      exact hk0
    · have n4 : ¬ nI (kcd sg) = nI 4 := by
        rcases hc with q | q | ⟨q, -⟩ | ⟨q, -⟩ | ⟨q, -⟩
        · rw [show kcd sg = 1 from if_pos (show sg < 10 by omega)]; decide
        · subst q; decide
        · subst q; decide
        · subst q; decide
        · exact absurd q g
      exact br_f' n4 (next _ _ _ hx (fun q => absurd q g))
  rintro again ls ⟨h1, h2⟩
  unfold wp_X8_hasConnectedStars_L8
  try simp (disch := omega) only [k_0, k_1, k_2, k_3, k_4, k_6, k_7, k_10, k_11, k_12, k_13, k_14, k_16, k_32, k_36, k_40, k_41, k_42, k_43, k_49, k_64, k_80, k_96, k_97, k_100, k_109, k_110, k_127, k_128, k_146, k_147, k_160, k_2304, k_4608, k_13824, nI_add, pk_mul, pk_sub, nI_clamp, q_in, nI_ltI, nI_leI, nI_eq, forall_eq, e_shl, e_bit, e_b0, e_b1, e_bn, e_andn, fa_or, fa_and, e_m1, e_nneg]
  repeat (first | refine And.intro (fun hh => absurd hh (by omega)) (fun _ => ?_) | refine And.intro (fun _ => ?_) (fun hh => absurd hh (by omega)) | refine And.intro (by omega) ?_)
  have hk1 := hK ls
  rw [cl_t h2] at hk1
  exact hk1
