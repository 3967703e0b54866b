/-! weighing a form -/
theorem stk_len {ns : List ND} : ∀ {j : Nat} {S : List Nat}, stk ns j = some S → S.length ≤ j
  | 0, S, h => by cases h; exact Nat.le_refl _
  | j + 1, S, h => by
    obtain ⟨T, hT, q⟩ := stk_node h
    have ih := stk_len hT
    rcases q with ⟨-, rfl⟩ | ⟨-, T', e, rfl⟩ | ⟨-, -, T', e, rfl⟩
    · rw [List.length_cons]; omega
    · rw [e, List.length_cons] at ih
      rw [List.length_cons]; omega
    · rw [e, List.length_cons, List.length_cons] at ih
      rw [List.length_cons]; omega
theorem map_fst {ns : List ND} {j : Nat} (h : j < ns.length) : (ns.map Prod.fst).getD j 0 = (ndAt ns j).1 := by
  unfold ndAt
  rw [List.getD_eq_getElem?_getD, List.getD_eq_getElem?_getD, List.getElem?_map, List.getElem?_eq_getElem h]
  rfl
def SKL (al : Nat → Int64) (f : Nat → Nat) : List Nat → Prop
  | [] => True
  | a :: T => al T.length = lN (f a) ∧ SKL al f T
def SKI (le : Nat → Int32) (f : Nat → Nat) : List Nat → Prop
  | [] => True
  | a :: T => le T.length = nI (f a) ∧ SKI le f T
theorem SKL_up {al al' : Nat → Int64} {f g : Nat → Nat} : ∀ {T : List Nat}, SKL al f T → (∀ i, i < T.length → al' i = al i) → (∀ a ∈ T, g a = f a) → SKL al' g T
  | [], _, _, _ => trivial
  | a :: T, ⟨h1, h2⟩, ha, hg => ⟨by rw [ha _ (by rw [List.length_cons]; omega), h1, hg a List.mem_cons_self], SKL_up h2 (fun i hi => ha i (by rw [List.length_cons]; omega)) (fun b hb => hg b (List.mem_cons_of_mem _ hb))⟩
theorem SKI_up {al al' : Nat → Int32} {f g : Nat → Nat} : ∀ {T : List Nat}, SKI al f T → (∀ i, i < T.length → al' i = al i) → (∀ a ∈ T, g a = f a) → SKI al' g T
  | [], _, _, _ => trivial
  | a :: T, ⟨h1, h2⟩, ha, hg => ⟨by rw [ha _ (by rw [List.length_cons]; omega), h1, hg a List.mem_cons_self], SKI_up h2 (fun i hi => ha i (by rw [List.length_cons]; omega)) (fun b hb => hg b (List.mem_cons_of_mem _ hb))⟩
theorem s_areConn {v : Nat → Int32} {fr : Nat → Nat} {k A : Nat} (irr : ∀ a, ind fr a a = false) (sym : ∀ a b, ind fr a b = ind fr b a) (hv0 : v 0 = nI k) (hf : FV v fr) (hk : k ≤ 6) (hA : ∀ t, A.testBit t = true → t < 2 ^ k) {K : Int32 → Prop} (hK : K (bI (cl (∀ t, A.testBit t = true → con fr t = true)))) : wp_X11_areConnected v (lN A) K := by
  unfold wp_X11_areConnected
  refine for_X11_areConnected_L5 _ _ _ (64) (fun i x => x = bI (cl (∀ t, t < i → A.testBit t = true → con fr t = true))) ?_ ?_ (0) _ _ rfl (Nat.zero_le _) (?_)
  · rintro again i x hi rfl hag
    have grow : ∀ b, (b = true ↔ ((∀ t, t < i → A.testBit t = true → con fr t = true) ∧ (A.testBit i = true → con fr i = true))) → again (bI b) (nI (i + 1)) := fun b hb => hag _ (by
      congr 1
      cases b with
      | true =>
        obtain ⟨h1, h2⟩ := hb.mp rfl
        rw [cl_t]
        intro t ht
        by_cases e : t = i
        · subst e; exact h2
        · exact h1 t (by omega)
      | false =>
        rw [cl_ff]
        intro q
        have := hb.mpr ⟨fun t ht => q t (by omega), q i (by omega)⟩
        cases this)
    unfold wp_X11_areConnected_L5
    cases hc : cl (∀ t, t < i → A.testBit t = true → con fr t = true) with
    | false =>
      try simp (disch := omega) only [k_0, k_1, k_2, k_3, k_4, k_6, k_7, k_10, k_11, k_12, k_13, k_14, k_16, k_32, k_36, k_40, k_41, k_42, k_43, k_49, k_64, k_80, k_96, k_97, k_100, k_109, k_110, k_127, k_128, k_146, k_147, k_160, k_2304, k_4608, k_13824, nI_add, pk_mul, pk_sub, nI_clamp, q_in, nI_ltI, nI_leI, nI_eq, forall_eq, e_shl, e_bit, e_b0, e_b1, e_bn, e_andn, fa_or, fa_and, e_m1, e_nneg]
      repeat (first | refine And.intro (fun hh => absurd hh (by omega)) (fun _ => ?_) | refine And.intro (fun _ => ?_) (fun hh => absurd hh (by omega)) | refine And.intro (by omega) ?_)
      refine br_t (by decide) ?_
      refine grow false ⟨fun q => by (cases q), fun q => ?_⟩
      rw [cl_t q.1] at hc
      cases hc
    | true =>
      have hp := cl_i.mp hc
      try simp (disch := omega) only [k_0, k_1, k_2, k_3, k_4, k_6, k_7, k_10, k_11, k_12, k_13, k_14, k_16, k_32, k_36, k_40, k_41, k_42, k_43, k_49, k_64, k_80, k_96, k_97, k_100, k_109, k_110, k_127, k_128, k_146, k_147, k_160, k_2304, k_4608, k_13824, nI_add, pk_mul, pk_sub, nI_clamp, q_in, nI_ltI, nI_leI, nI_eq, forall_eq, e_shl, e_bit, e_b0, e_b1, e_bn, e_andn, fa_or, fa_and, e_m1, e_nneg]
      repeat (first | refine And.intro (fun hh => absurd hh (by omega)) (fun _ => ?_) | refine And.intro (fun _ => ?_) (fun hh => absurd hh (by omega)) | refine And.intro (by omega) ?_)
      refine br_f (by decide) ?_
      rw [l_bs hi]
      simp only [lgc, lgc', l_b0]
      refine ⟨fun q => grow true ⟨fun _ => ⟨hp, fun w => by rw [q] at w; cases w⟩, fun _ => rfl⟩, fun q => ?_⟩
      have hb : A.testBit i = true := by
        cases w : A.testBit i with
        | true => rfl
        | false => exact absurd w q
      refine s_connR irr sym hv0 hf hk (hA i hb) ?_
      cases hcon : con fr i with
      | false => exact br_t (by decide) (grow false ⟨fun q => by (cases q), fun q => by have := q.2 hb; rw [hcon] at this; cases this⟩)
      | true => exact br_f (by decide) (grow true ⟨fun _ => ⟨hp, fun _ => hcon⟩, fun _ => rfl⟩)
  · rintro again x rfl
    unfold wp_X11_areConnected_L5
    try simp (disch := omega) only [k_0, k_1, k_2, k_3, k_4, k_6, k_7, k_10, k_11, k_12, k_13, k_14, k_16, k_32, k_36, k_40, k_41, k_42, k_43, k_49, k_64, k_80, k_96, k_97, k_100, k_109, k_110, k_127, k_128, k_146, k_147, k_160, k_2304, k_4608, k_13824, nI_add, pk_mul, pk_sub, nI_clamp, q_in, nI_ltI, nI_leI, nI_eq, forall_eq, e_shl, e_bit, e_b0, e_b1, e_bn, e_andn, fa_or, fa_and, e_m1, e_nneg]
    repeat (first | refine And.intro (fun hh => absurd hh (by omega)) (fun _ => ?_) | refine And.intro (fun _ => ?_) (fun hh => absurd hh (by omega)) | refine And.intro (by omega) ?_)
    have e : cl (∀ t, t < 64 → A.testBit t = true → con fr t = true) = cl (∀ t, A.testBit t = true → con fr t = true) := cl_congr ⟨fun q t ht => q t (lt64 (hA t ht) hk) ht, fun q t _ ht => q t ht⟩
    rw [e]
    refine ⟨?_, hK⟩
    cases cl (∀ t, A.testBit t = true → con fr t = true) with
    | false => exact Or.inl (by decide)
    | true => exact Or.inr (by decide)
  · have e : cl (∀ t, t < 0 → A.testBit t = true → con fr t = true) = true := cl_t (fun t ht => absurd ht (Nat.not_lt_zero _))
    rw [e]
    rfl
theorem lval_l {sg l r : Nat} {f : Nat → Nat} (h : sg < 10) : lval (sg, l, r) f = 1 := if_pos h
theorem lval_10 {l r : Nat} {f : Nat → Nat} : lval (10, l, r) f = 0 := by simp [lval]
theorem lval_11 {l r : Nat} {f : Nat → Nat} : lval (11, l, r) f = f l + f r := by simp [lval]
theorem lval_12 {l r : Nat} {f : Nat → Nat} : lval (12, l, r) f = if f r < f l then f r else f l := by simp [lval]
theorem lval_13 {l r : Nat} {f : Nat → Nat} : lval (13, l, r) f = 0 := by simp [lval]
theorem s_weighs {v txt fm wt le : Nat → Int32} {al : Nat → Int64} {fl wl : Int32} {fr : Nat → Nat} {tx : List Nat} {k : Nat} (irr : ∀ a, ind fr a a = false) (sym : ∀ a b, ind fr a b = ind fr b a) (hv0 : v 0 = nI k) (hf : FV v fr) (hk1 : 1 ≤ k) (hk : k ≤ 6) (h80 : tx.length ≤ 80) (h128 : ∀ b ∈ tx, b < 128) (hb : RW txt tx) (hok : OKT k tx) {K : Int32 → Int32 → Int32 → (Nat → Int32) → (Nat → Int32) → (Nat → Int64) → (Nat → Int32) → Prop} (hK : ∀ w fm' wt' al' le', le' 0 = nI (LT (nodes tx) (nodes tx).length (topN tx)) → K (bI (cl (SF fr (nodes tx) (nodes tx).length))) (nI (nodes tx).length) w fm' wt' al' le') : wp_X11_weighs (nI tx.length) fl wl v txt fm wt al le K := by
  unfold wp_X11_weighs
  refine s_findForm hv0 hk1 hk h80 h128 hb hok (fun w fm' wt' hfm => ?_)
  obtain ⟨ns0, l0, -, -, -, -, hst, hsg, hlen, -⟩ := nodes_ok hk h80 hok
  generalize nodes tx = ns at *
  generalize topN tx = tp at *
  have ml : (ns.map Prod.fst).length = ns.length := by simp
  refine for_X11_weighs_L10 _ _ _ _ (ns.length) (fun j x1 x2 al le => ∃ S, stk ns j = some S ∧ x1 = bI (cl (SF fr ns j)) ∧ x2 = nI S.length ∧ SKL al (AT ns j) S ∧ SKI le (LT ns j) S) ?_ ?_ (0) _ _ _ _ _ rfl (Nat.zero_le _) (⟨[], rfl, ?_, rfl, trivial, trivial⟩)
  · rintro again j x1 x2 al le hj ⟨S, hS, rfl, rfl, hal, hle⟩ hag
    obtain ⟨S', hS'⟩ := stk_pre hst (j + 1) hj
    obtain ⟨S2, hS2, hnode⟩ := stk_node hS'
    rw [hS] at hS2
    cases hS2
    have slen := stk_len hS
    have slt := stk_lt hS
    have ssum := LT_sum hS
    have b64 : ∀ a, AT ns j a < 2 ^ 64 := fun a => AT_64 hk hsg hst (Nat.le_refl _) (Nat.le_of_lt hj) a
    obtain ⟨sg, l, r, e, hc⟩ := nd_cases hk hsg hst (Nat.le_refl _) hj
    rw [e] at hnode
    have hfj : fm' j = nI sg := by rw [hfm j (by omega), map_fst hj, e]
    have go : ∀ T x1 al' le' y z, S' = j :: T → (∀ a ∈ T, a < j) → x1 = bI (cl (SF fr ns (j + 1))) → SKL al (AT ns j) T → SKI le (LT ns j) T → al' = vp_updL al T.length y → le' = upd le T.length z → y = lN (aval (sg, l, r) (AT ns j)) → z = nI (lval (sg, l, r) (LT ns j)) → again x1 (nI (T.length + 1)) (nI (j + 1)) al' le' := by
      intro T x1 al' le' y z hT htl hx1 h1 h2 hal' hle' hy hz
      subst hT hal' hle'
      refine hag _ _ _ _ ⟨j :: T, hS', hx1, rfl, ⟨?_, SKL_up h1 (fun i hi => pk_uLn (by omega)) (fun a ha => ?_)⟩, ⟨?_, SKI_up h2 (fun i hi => pk_un (by omega)) (fun a ha => ?_)⟩⟩
      · rw [pk_uLs, AT_s, if_pos rfl, e]; exact hy
      · have := htl a ha
        rw [AT_s, if_neg (by omega)]
      · rw [pk_us, LT_s, if_pos rfl, e]; exact hz
      · have := htl a ha
        rw [LT_s, if_neg (by omega)]
    have same : sg ≠ 13 → cl (SF fr ns j) = cl (SF fr ns (j + 1)) := fun hne => cl_congr ⟨fun q => SF_s.mpr ⟨q, fun w => by rw [e] at w; exact absurd w hne⟩, fun q => (SF_s.mp q).1⟩
    have sg13 : sg ≤ 13 := by omega
    unfold wp_X11_weighs_L10
    try simp (disch := omega) only [k_0, k_1, k_2, k_3, k_4, k_6, k_7, k_10, k_11, k_12, k_13, k_14, k_16, k_32, k_36, k_40, k_41, k_42, k_43, k_49, k_64, k_80, k_96, k_97, k_100, k_109, k_110, k_127, k_128, k_146, k_147, k_160, k_2304, k_4608, k_13824, nI_add, pk_mul, pk_sub, nI_clamp, q_in, nI_ltI, nI_leI, nI_eq, forall_eq, e_shl, e_bit, e_b0, e_b1, e_bn, e_andn, fa_or, fa_and, e_m1, e_nneg]
    repeat (first | refine And.intro (fun hh => absurd hh (by omega)) (fun _ => ?_) | refine And.intro (fun _ => ?_) (fun hh => absurd hh (by omega)) | refine And.intro (by omega) ?_)
    rw [hfj]
    try simp (disch := omega) only [k_0, k_1, k_2, k_3, k_4, k_6, k_7, k_10, k_11, k_12, k_13, k_14, k_16, k_32, k_36, k_40, k_41, k_42, k_43, k_49, k_64, k_80, k_96, k_97, k_100, k_109, k_110, k_127, k_128, k_146, k_147, k_160, k_2304, k_4608, k_13824, nI_add, pk_mul, pk_sub, nI_clamp, q_in, nI_ltI, nI_leI, nI_eq, forall_eq, e_shl, e_bit, e_b0, e_b1, e_bn, e_andn, fa_or, fa_and, e_m1, e_nneg]
    rcases hnode with ⟨q, rfl⟩ | ⟨q, T, rfl, rfl⟩ | ⟨q1, q2, T, rfl, rfl⟩
    · have q' : sg < 11 := q
      repeat (first | refine And.intro (fun hh => absurd hh (by omega)) (fun _ => ?_) | refine And.intro (fun _ => ?_) (fun hh => absurd hh (by omega)) | refine And.intro (by omega) ?_)
      unfold wp_X11_weighs_J55
      by_cases g : sg = 10
      · try simp (disch := omega) only [k_0, k_1, k_2, k_3, k_4, k_6, k_7, k_10, k_11, k_12, k_13, k_14, k_16, k_32, k_36, k_40, k_41, k_42, k_43, k_49, k_64, k_80, k_96, k_97, k_100, k_109, k_110, k_127, k_128, k_146, k_147, k_160, k_2304, k_4608, k_13824, nI_add, pk_mul, pk_sub, nI_clamp, q_in, nI_ltI, nI_leI, nI_eq, forall_eq, e_shl, e_bit, e_b0, e_b1, e_bn, e_andn, fa_or, fa_and, e_m1, e_nneg]
        repeat (first | refine And.intro (fun hh => absurd hh (by omega)) (fun _ => ?_) | refine And.intro (fun _ => ?_) (fun hh => absurd hh (by omega)) | refine And.intro (by omega) ?_)
        subst g
        refine go S _ _ _ _ _ rfl slt (congrArg bI (same (by decide))) hal hle rfl rfl ?_ ?_
        · rw [aval_10]; rfl
        · rw [lval_10]
      · have g6 : sg < k := by omega
        try simp (disch := omega) only [k_0, k_1, k_2, k_3, k_4, k_6, k_7, k_10, k_11, k_12, k_13, k_14, k_16, k_32, k_36, k_40, k_41, k_42, k_43, k_49, k_64, k_80, k_96, k_97, k_100, k_109, k_110, k_127, k_128, k_146, k_147, k_160, k_2304, k_4608, k_13824, nI_add, pk_mul, pk_sub, nI_clamp, q_in, nI_ltI, nI_leI, nI_eq, forall_eq, e_shl, e_bit, e_b0, e_b1, e_bn, e_andn, fa_or, fa_and, e_m1, e_nneg]
        repeat (first | refine And.intro (fun hh => absurd hh (by omega)) (fun _ => ?_) | refine And.intro (fun _ => ?_) (fun hh => absurd hh (by omega)) | refine And.intro (by omega) ?_)
        refine go S _ _ _ _ _ rfl slt (congrArg bI (same (by omega))) hal hle rfl rfl ?_ ?_
        · rw [aval_l (by omega)]
          first | rw [l_1 (pow6 g6 hk)] | rw [k_1, e_shl (by omega), l_1 (pow6 g6 hk)]
        · rw [lval_l (by omega)]
    · have q' : sg = 13 := q
      repeat (first | refine And.intro (fun hh => absurd hh (by omega)) (fun _ => ?_) | refine And.intro (fun _ => ?_) (fun hh => absurd hh (by omega)) | refine And.intro (by omega) ?_)
      subst q'
      obtain ⟨hal1, hal2⟩ := hal
      obtain ⟨hle1, hle2⟩ := hle
      have sl1 : (l :: T).length = T.length + 1 := rfl
      rw [sl1] at slen
      have hsub : nI ((13, l, r) : ND).2.1 = nI l := rfl
      have tl : ∀ a ∈ T, a < j := fun a ha => slt a (List.mem_cons_of_mem _ ha)
      have j111 : ∀ s0 kx, s0 = bI (cl (SF fr ns (j + 1))) → wp_X11_weighs_J111 K again kx al le (nI (T.length + 1)) (nI j) s0 := by
        intro s0 kx hs0
        unfold wp_X11_weighs_J111
        rw [k_1, pk_sub (by omega), Nat.add_sub_cancel]
        try simp (disch := omega) only [k_0, k_1, k_2, k_3, k_4, k_6, k_7, k_10, k_11, k_12, k_13, k_14, k_16, k_32, k_36, k_40, k_41, k_42, k_43, k_49, k_64, k_80, k_96, k_97, k_100, k_109, k_110, k_127, k_128, k_146, k_147, k_160, k_2304, k_4608, k_13824, nI_add, pk_mul, pk_sub, nI_clamp, q_in, nI_ltI, nI_leI, nI_eq, forall_eq, e_shl, e_bit, e_b0, e_b1, e_bn, e_andn, fa_or, fa_and, e_m1, e_nneg]
        repeat (first | refine And.intro (fun hh => absurd hh (by omega)) (fun _ => ?_) | refine And.intro (fun _ => ?_) (fun hh => absurd hh (by omega)) | refine And.intro (by omega) ?_)
        rw [show al T.length = lN (AT ns j l) from hal1]
        refine s_closure (b64 _) ?_
        try simp (disch := omega) only [k_0, k_1, k_2, k_3, k_4, k_6, k_7, k_10, k_11, k_12, k_13, k_14, k_16, k_32, k_36, k_40, k_41, k_42, k_43, k_49, k_64, k_80, k_96, k_97, k_100, k_109, k_110, k_127, k_128, k_146, k_147, k_160, k_2304, k_4608, k_13824, nI_add, pk_mul, pk_sub, nI_clamp, q_in, nI_ltI, nI_leI, nI_eq, forall_eq, e_shl, e_bit, e_b0, e_b1, e_bn, e_andn, fa_or, fa_and, e_m1, e_nneg]
        repeat (first | refine And.intro (fun hh => absurd hh (by omega)) (fun _ => ?_) | refine And.intro (fun _ => ?_) (fun hh => absurd hh (by omega)) | refine And.intro (by omega) ?_)
        exact go T _ _ _ _ _ rfl tl hs0 hal2 hle2 rfl rfl (by rw [aval_13]) (by rw [lval_13])
      have sl2 : ((13, l, r) : ND).2.1 :: T = l :: T := rfl
      rw [sl2, sl1]
      cases hc1 : cl (SF fr ns j) with
      | false =>
        refine br_t (by decide) (j111 _ _ ?_)
        rw [cl_ff (fun w => by rw [cl_t (SF_s.mp w).1] at hc1; cases hc1)]
        rfl
      | true =>
        have hp := cl_i.mp hc1
        refine br_f (by decide) ?_
        rw [pk_sub (by omega), Nat.add_sub_cancel]
        try simp (disch := omega) only [k_0, k_1, k_2, k_3, k_4, k_6, k_7, k_10, k_11, k_12, k_13, k_14, k_16, k_32, k_36, k_40, k_41, k_42, k_43, k_49, k_64, k_80, k_96, k_97, k_100, k_109, k_110, k_127, k_128, k_146, k_147, k_160, k_2304, k_4608, k_13824, nI_add, pk_mul, pk_sub, nI_clamp, q_in, nI_ltI, nI_leI, nI_eq, forall_eq, e_shl, e_bit, e_b0, e_b1, e_bn, e_andn, fa_or, fa_and, e_m1, e_nneg]
        repeat (first | refine And.intro (fun hh => absurd hh (by omega)) (fun _ => ?_) | refine And.intro (fun _ => ?_) (fun hh => absurd hh (by omega)) | refine And.intro (by omega) ?_)
        rw [show al T.length = lN (AT ns j l) from hal1]
        refine s_areConn irr sym hv0 hf hk (fun t ht => AT_bits hk hsg hst (Nat.le_refl _) j (Nat.le_of_lt hj) l t ht) ?_
        have e9 : cl (∀ t, (AT ns j l).testBit t = true → con fr t = true) = cl (SF fr ns (j + 1)) := cl_congr ⟨fun w => SF_s.mpr ⟨hp, fun _ => by rw [e]; exact w⟩, fun w => by have := (SF_s.mp w).2 (by rw [e]); rw [e] at this; exact this⟩
        rw [e9]
        cases hc2 : cl (SF fr ns (j + 1)) with
        | false => exact br_t (by decide) (j111 _ _ (by rw [hc2]; rfl))
        | true => exact br_f (by decide) (j111 _ _ (by rw [hc2]; rfl))
    · have q1' : 11 ≤ sg := q1
      have q2' : ¬ sg = 13 := q2
      obtain ⟨hal1, hal2, hal3⟩ := hal
      obtain ⟨hle1, hle2, hle3⟩ := hle
      have sl1 : (((sg, l, r) : ND).2.2 :: ((sg, l, r) : ND).2.1 :: T).length = T.length + 1 + 1 := rfl
      rw [sl1] at slen
      have hal1' : al (T.length + 1) = lN (AT ns j r) := hal1
      have hal2' : al T.length = lN (AT ns j l) := hal2
      have hle1' : le (T.length + 1) = nI (LT ns j r) := hle1
      have hle2' : le T.length = nI (LT ns j l) := hle2
      have sb : LT ns j r + (LT ns j l + sumS (LT ns j) T) ≤ j := ssum
      have tl : ∀ a ∈ T, a < j := fun a ha => slt a (List.mem_cons_of_mem _ (List.mem_cons_of_mem _ ha))
      have j207 : ∀ (b : Bool) s2 kx, (b = true ↔ sg = 11) → s2 = lN (aval (sg, l, r) (AT ns j)) → wp_X11_weighs_J207 K again kx al le (bI (cl (SF fr ns j))) (nI (T.length + 1)) (nI j) (bI b) (nI T.length) s2 := by
        intro b s2 kx hb2 hs2
        unfold wp_X11_weighs_J207
        rw [k_1, pk_sub (by omega), Nat.add_sub_cancel]
        try simp (disch := omega) only [k_0, k_1, k_2, k_3, k_4, k_6, k_7, k_10, k_11, k_12, k_13, k_14, k_16, k_32, k_36, k_40, k_41, k_42, k_43, k_49, k_64, k_80, k_96, k_97, k_100, k_109, k_110, k_127, k_128, k_146, k_147, k_160, k_2304, k_4608, k_13824, nI_add, pk_mul, pk_sub, nI_clamp, q_in, nI_ltI, nI_leI, nI_eq, forall_eq, e_shl, e_bit, e_b0, e_b1, e_bn, e_andn, fa_or, fa_and, e_m1, e_nneg]
        repeat (first | refine And.intro (fun hh => absurd hh (by omega)) (fun _ => ?_) | refine And.intro (fun _ => ?_) (fun hh => absurd hh (by omega)) | refine And.intro (by omega) ?_)
        rw [hle1', hle2']
        cases b with
        | false =>
          have g : sg = 12 := by
            have : ¬ sg = 11 := fun w => by have := hb2.mpr w; cases this
            omega
          subst g
          refine br_t (by decide) ?_
          try simp (disch := omega) only [k_0, k_1, k_2, k_3, k_4, k_6, k_7, k_10, k_11, k_12, k_13, k_14, k_16, k_32, k_36, k_40, k_41, k_42, k_43, k_49, k_64, k_80, k_96, k_97, k_100, k_109, k_110, k_127, k_128, k_146, k_147, k_160, k_2304, k_4608, k_13824, nI_add, pk_mul, pk_sub, nI_clamp, q_in, nI_ltI, nI_leI, nI_eq, forall_eq, e_shl, e_bit, e_b0, e_b1, e_bn, e_andn, fa_or, fa_and, e_m1, e_nneg]
          repeat (first | refine And.intro (fun hh => absurd hh (by omega)) (fun _ => ?_) | refine And.intro (fun _ => ?_) (fun hh => absurd hh (by omega)) | refine And.intro (by omega) ?_)
          refine ⟨fun w => ?_, fun w => ?_⟩
          · repeat (first | refine And.intro (fun hh => absurd hh (by omega)) (fun _ => ?_) | refine And.intro (fun _ => ?_) (fun hh => absurd hh (by omega)) | refine And.intro (by omega) ?_)
            exact go T _ _ _ _ _ rfl tl (congrArg bI (same (by decide))) hal3 hle3 rfl rfl hs2 (by rw [lval_12, if_neg (by omega)])
          · repeat (first | refine And.intro (fun hh => absurd hh (by omega)) (fun _ => ?_) | refine And.intro (fun _ => ?_) (fun hh => absurd hh (by omega)) | refine And.intro (by omega) ?_)
            exact go T _ _ _ _ _ rfl tl (congrArg bI (same (by decide))) hal3 hle3 rfl rfl hs2 (by rw [lval_12, if_pos (by omega)])
        | true =>
          have g := hb2.mp rfl
          subst g
          refine br_f (by decide) ?_
          try simp (disch := omega) only [k_0, k_1, k_2, k_3, k_4, k_6, k_7, k_10, k_11, k_12, k_13, k_14, k_16, k_32, k_36, k_40, k_41, k_42, k_43, k_49, k_64, k_80, k_96, k_97, k_100, k_109, k_110, k_127, k_128, k_146, k_147, k_160, k_2304, k_4608, k_13824, nI_add, pk_mul, pk_sub, nI_clamp, q_in, nI_ltI, nI_leI, nI_eq, forall_eq, e_shl, e_bit, e_b0, e_b1, e_bn, e_andn, fa_or, fa_and, e_m1, e_nneg]
          repeat (first | refine And.intro (fun hh => absurd hh (by omega)) (fun _ => ?_) | refine And.intro (fun _ => ?_) (fun hh => absurd hh (by omega)) | refine And.intro (by omega) ?_)
          exact go T _ _ _ _ _ rfl tl (congrArg bI (same (by decide))) hal3 hle3 rfl rfl hs2 (by rw [lval_11])
      rw [sl1]
      try simp (disch := omega) only [k_0, k_1, k_2, k_3, k_4, k_6, k_7, k_10, k_11, k_12, k_13, k_14, k_16, k_32, k_36, k_40, k_41, k_42, k_43, k_49, k_64, k_80, k_96, k_97, k_100, k_109, k_110, k_127, k_128, k_146, k_147, k_160, k_2304, k_4608, k_13824, nI_add, pk_mul, pk_sub, nI_clamp, q_in, nI_ltI, nI_leI, nI_eq, forall_eq, e_shl, e_bit, e_b0, e_b1, e_bn, e_andn, fa_or, fa_and, e_m1, e_nneg, pk_m1]
      repeat (first | refine And.intro (fun hh => absurd hh (by omega)) (fun _ => ?_) | refine And.intro (fun _ => ?_) (fun hh => absurd hh (by omega)) | refine And.intro (by omega) ?_)
      refine ⟨fun g => ?_, fun g => ?_⟩
      · have g' : sg = 12 := by omega
        subst g'
        unfold wp_X11_weighs_J158
        refine br_t (by decide) ?_
        rw [k_1, pk_sub (by omega), Nat.add_sub_cancel]
        try simp (disch := omega) only [k_0, k_1, k_2, k_3, k_4, k_6, k_7, k_10, k_11, k_12, k_13, k_14, k_16, k_32, k_36, k_40, k_41, k_42, k_43, k_49, k_64, k_80, k_96, k_97, k_100, k_109, k_110, k_127, k_128, k_146, k_147, k_160, k_2304, k_4608, k_13824, nI_add, pk_mul, pk_sub, nI_clamp, q_in, nI_ltI, nI_leI, nI_eq, forall_eq, e_shl, e_bit, e_b0, e_b1, e_bn, e_andn, fa_or, fa_and, e_m1, e_nneg]
        repeat (first | refine And.intro (fun hh => absurd hh (by omega)) (fun _ => ?_) | refine And.intro (fun _ => ?_) (fun hh => absurd hh (by omega)) | refine And.intro (by omega) ?_)
        rw [hal1', hal2', l_or]
        exact j207 false _ _ (by decide) (by rw [aval_12])
      · subst g
        unfold wp_X11_weighs_J158
        refine br_f (by decide) ?_
        rw [k_1, pk_sub (by omega), Nat.add_sub_cancel]
        try simp (disch := omega) only [k_0, k_1, k_2, k_3, k_4, k_6, k_7, k_10, k_11, k_12, k_13, k_14, k_16, k_32, k_36, k_40, k_41, k_42, k_43, k_49, k_64, k_80, k_96, k_97, k_100, k_109, k_110, k_127, k_128, k_146, k_147, k_160, k_2304, k_4608, k_13824, nI_add, pk_mul, pk_sub, nI_clamp, q_in, nI_ltI, nI_leI, nI_eq, forall_eq, e_shl, e_bit, e_b0, e_b1, e_bn, e_andn, fa_or, fa_and, e_m1, e_nneg]
        repeat (first | refine And.intro (fun hh => absurd hh (by omega)) (fun _ => ?_) | refine And.intro (fun _ => ?_) (fun hh => absurd hh (by omega)) | refine And.intro (by omega) ?_)
        rw [hal1', hal2']
        refine s_unions ?_
        exact j207 true _ _ (by decide) (by rw [aval_11])
  · rintro again x1 x2 al le ⟨S, hS, rfl, rfl, hal, hle⟩
    rw [hst] at hS
    cases hS
    unfold wp_X11_weighs_L10
    try simp (disch := omega) only [k_0, k_1, k_2, k_3, k_4, k_6, k_7, k_10, k_11, k_12, k_13, k_14, k_16, k_32, k_36, k_40, k_41, k_42, k_43, k_49, k_64, k_80, k_96, k_97, k_100, k_109, k_110, k_127, k_128, k_146, k_147, k_160, k_2304, k_4608, k_13824, nI_add, pk_mul, pk_sub, nI_clamp, q_in, nI_ltI, nI_leI, nI_eq, forall_eq, e_shl, e_bit, e_b0, e_b1, e_bn, e_andn, fa_or, fa_and, e_m1, e_nneg]
    repeat (first | refine And.intro (fun hh => absurd hh (by omega)) (fun _ => ?_) | refine And.intro (fun _ => ?_) (fun hh => absurd hh (by omega)) | refine And.intro (by omega) ?_)
    refine ⟨?_, hK _ _ _ _ _ hle.1⟩
    cases cl (SF fr ns ns.length) with
    | false => exact Or.inl (by decide)
    | true => exact Or.inr (by decide)
  · have e0 : SF fr ns 0 := fun i hi => absurd hi (Nat.not_lt_zero _)
    rw [cl_t e0]
    rfl
