/-! building it -/
theorem s_builds {k : Nat} {ns : List ND} {tp : Nat} (hk : k ≤ 6) (hsg : sgOK k ns) (hst : stk ns ns.length = some [tp]) (hlen : ns.length ≤ 159) (h160 : ∀ j, j ≤ ns.length → SN ns j ≤ 160) {fm on to fre too fi la : Nat → Int32} {st : Int32} (hfm : RW fm (ns.map Prod.fst)) {K : Int32 → Int32 → (Nat → Int32) → (Nat → Int32) → (Nat → Int32) → (Nat → Int32) → (Nat → Int32) → (Nat → Int32) → Prop} (hK : ∀ on' to' fre' too' fi' la', ENC (EG ns ns.length) (SN ns ns.length) fre' too' → ONR (SN ns ns.length) (SP ns ns.length) (SQ ns ns.length) (LQ ns ns.length) on' to' → la' 0 = nI (LA ns ns.length tp) → K (nI (FI ns ns.length tp)) (nI (SN ns ns.length)) on' to' fre' too' fi' la') : wp_X11_builds (nI ns.length) st fm on to fre too fi la K := by
  have ml : (ns.map Prod.fst).length = ns.length := by simp
  unfold wp_X11_builds
  refine for_X11_builds_L9 _ _ _ (ns.length) (fun j x1 n on to fre too fi la => ∃ S, stk ns j = some S ∧ x1 = nI S.length ∧ n = nI (SN ns j) ∧ ENC (EG ns j) (SN ns j) fre too ∧ ONR (SN ns j) (SP ns j) (SQ ns j) (LQ ns j) on to ∧ SKI fi (FI ns j) S ∧ SKI la (LA ns j) S) ?_ ?_ (0) _ _ _ _ _ _ _ _ _ rfl (Nat.zero_le _) (⟨[], rfl, rfl, rfl, fun s hs => absurd hs (Nat.not_lt_zero _), ⟨fun q hq => absurd hq (Nat.not_lt_zero _), fun s hs => absurd hs (Nat.not_lt_zero _)⟩, trivial, trivial⟩)
  · rintro again j x1 n0 on to fre too fi la hj ⟨S, hS, rfl, rfl, hE, hO, hfi, hla⟩ hag
    obtain ⟨S', hS'⟩ := stk_pre hst (j + 1) hj
    obtain ⟨S2, hS2, hnode⟩ := stk_node hS'
    rw [hS] at hS2
    cases hS2
    have slen := stk_len hS
    have slt := stk_lt hS
    have hga := GI_all hk hsg hst (Nat.le_refl _) (Nat.le_of_lt hj) hS
    obtain ⟨g1, g2, -, -, -, g6, g7⟩ := hga
    have n160 := h160 j (Nat.le_of_lt hj)
    have n160' := h160 (j + 1) hj
    obtain ⟨sg, l, r, e, hc⟩ := nd_cases hk hsg hst (Nat.le_refl _) hj
    rw [e] at hnode
    have hfj : fm j = nI sg := by rw [hfm j (by omega), map_fst hj, e]
    have sqn : ∀ q, q < SP ns j → SQ ns j q < SN ns j := fun q hq => by have := g2 q hq; omega
    have sqn1 : ∀ q, q < SP ns j → SQ ns j q < SN ns j + 1 := fun q hq => by have := g2 q hq; omega
    have gE : ∀ s t, EG ns j s t → s < SN ns j := fun s t h => (g1 s t h).1
    have gE1 : ∀ s t, EG ns j s t → s < SN ns j + 1 := fun s t h => by have := (g1 s t h).1; omega
    have fin : ∀ T n' on' to' fre' too' f' l', S' = j :: T → (∀ a ∈ T, a < j) → SKI fi (FI ns j) T → SKI la (LA ns j) T → f' T.length = nI (FI ns (j + 1) j) → (∀ i, i < T.length → f' i = fi i) → l' T.length = nI (LA ns (j + 1) j) → (∀ i, i < T.length → l' i = la i) → n' = nI (SN ns (j + 1)) → ENC (EG ns (j + 1)) (SN ns (j + 1)) fre' too' → ONR (SN ns (j + 1)) (SP ns (j + 1)) (SQ ns (j + 1)) (LQ ns (j + 1)) on' to' → again (nI (T.length + 1)) (nI (j + 1)) n' on' to' fre' too' f' l' := by
      intro T n' on' to' fre' too' f' l' hT tl h1 h2 h3 h4 h5 h6 h7 h8 h9
      subst hT
      refine hag _ _ _ _ _ _ _ _ ⟨j :: T, hS', rfl, h7, h8, h9, ⟨h3, SKI_up h1 h4 (fun a ha => ?_)⟩, ⟨h5, SKI_up h2 h6 (fun a ha => ?_)⟩⟩
      · have := tl a ha
        have ne : a ≠ j := by omega
        simp [FI, ne]
      · have := tl a ha
        have ne : a ≠ j := by omega
        simp [LA, ne]
    unfold wp_X11_builds_L9
    try simp (disch := omega) only [k_0, k_1, k_2, k_3, k_4, k_6, k_7, k_10, k_11, k_12, k_13, k_14, k_16, k_32, k_36, k_40, k_41, k_42, k_43, k_49, k_64, k_80, k_96, k_97, k_100, k_109, k_110, k_127, k_128, k_146, k_147, k_160, k_2304, k_4608, k_13824, nI_add, pk_mul, pk_sub, nI_clamp, q_in, nI_ltI, nI_leI, nI_eq, forall_eq, e_shl, e_bit, e_b0, e_b1, e_bn, e_andn, fa_or, fa_and, e_m1, e_nneg]
    repeat (first | refine And.intro (fun hh => absurd hh (by omega)) (fun _ => ?_) | refine And.intro (fun _ => ?_) (fun hh => absurd hh (by omega)) | refine And.intro (by omega) ?_)
    rw [hfj]
    try simp (disch := omega) only [k_0, k_1, k_2, k_3, k_4, k_6, k_7, k_10, k_11, k_12, k_13, k_14, k_16, k_32, k_36, k_40, k_41, k_42, k_43, k_49, k_64, k_80, k_96, k_97, k_100, k_109, k_110, k_127, k_128, k_146, k_147, k_160, k_2304, k_4608, k_13824, nI_add, pk_mul, pk_sub, nI_clamp, q_in, nI_ltI, nI_leI, nI_eq, forall_eq, e_shl, e_bit, e_b0, e_b1, e_bn, e_andn, fa_or, fa_and, e_m1, e_nneg]
    rcases hnode with ⟨q, rfl⟩ | ⟨q, T, rfl, rfl⟩ | ⟨q1, q2, T, rfl, rfl⟩
    · have q' : sg < 11 := q
      repeat (first | refine And.intro (fun hh => absurd hh (by omega)) (fun _ => ?_) | refine And.intro (fun _ => ?_) (fun hh => absurd hh (by omega)) | refine And.intro (by omega) ?_)
      have enc2 : ENC (EG ns j) (SN ns j + 1 + 1) (upd (upd fre (SN ns j) (-1)) (SN ns j + 1) (-1)) (upd (upd too (SN ns j) (-1)) (SN ns j + 1) (-1)) := (hE.grow gE).grow gE1
      by_cases g : sg = 10
      · have e2 : SN ns (j + 1) = SN ns j + 2 := by simp [SN, e, g]
        refine s_state (by omega) ?_
        try simp (disch := omega) only [k_0, k_1, k_2, k_3, k_4, k_6, k_7, k_10, k_11, k_12, k_13, k_14, k_16, k_32, k_36, k_40, k_41, k_42, k_43, k_49, k_64, k_80, k_96, k_97, k_100, k_109, k_110, k_127, k_128, k_146, k_147, k_160, k_2304, k_4608, k_13824, nI_add, pk_mul, pk_sub, nI_clamp, q_in, nI_ltI, nI_leI, nI_eq, forall_eq, e_shl, e_bit, e_b0, e_b1, e_bn, e_andn, fa_or, fa_and, e_m1, e_nneg]
        repeat (first | refine And.intro (fun hh => absurd hh (by omega)) (fun _ => ?_) | refine And.intro (fun _ => ?_) (fun hh => absurd hh (by omega)) | refine And.intro (by omega) ?_)
        refine s_state (by omega) ?_
        try simp (disch := omega) only [k_0, k_1, k_2, k_3, k_4, k_6, k_7, k_10, k_11, k_12, k_13, k_14, k_16, k_32, k_36, k_40, k_41, k_42, k_43, k_49, k_64, k_80, k_96, k_97, k_100, k_109, k_110, k_127, k_128, k_146, k_147, k_160, k_2304, k_4608, k_13824, nI_add, pk_mul, pk_sub, nI_clamp, q_in, nI_ltI, nI_leI, nI_eq, forall_eq, e_shl, e_bit, e_b0, e_b1, e_bn, e_andn, fa_or, fa_and, e_m1, e_nneg]
        repeat (first | refine And.intro (fun hh => absurd hh (by omega)) (fun _ => ?_) | refine And.intro (fun _ => ?_) (fun hh => absurd hh (by omega)) | refine And.intro (by omega) ?_)
        rw [pk_us, pk_us]
        refine s_joins enc2 (by omega) (by omega) (by omega) (by rw [pk_un (by omega), pk_us]) (fun fre' too' h' _ _ => ?_)
        try simp (disch := omega) only [k_0, k_1, k_2, k_3, k_4, k_6, k_7, k_10, k_11, k_12, k_13, k_14, k_16, k_32, k_36, k_40, k_41, k_42, k_43, k_49, k_64, k_80, k_96, k_97, k_100, k_109, k_110, k_127, k_128, k_146, k_147, k_160, k_2304, k_4608, k_13824, nI_add, pk_mul, pk_sub, nI_clamp, q_in, nI_ltI, nI_leI, nI_eq, forall_eq, e_shl, e_bit, e_b0, e_b1, e_bn, e_andn, fa_or, fa_and, e_m1, e_nneg]
        repeat (first | refine And.intro (fun hh => absurd hh (by omega)) (fun _ => ?_) | refine And.intro (fun _ => ?_) (fun hh => absurd hh (by omega)) | refine And.intro (by omega) ?_)
        subst g
        have e1 : EG ns (j + 1) = adE (EG ns j) (SN ns j) (SN ns j + 1) := by simp [EG, e]
        have e3 : SP ns (j + 1) = SP ns j := by simp [SP, e]
        have e4 : SQ ns (j + 1) = SQ ns j := by funext q; simp [SQ, e]
        have e5 : LQ ns (j + 1) = LQ ns j := by funext q; simp [LQ, e]
        refine fin S _ _ _ _ _ _ _ rfl slt hfi hla (by rw [pk_us]; simp [FI, e]) (fun i hi => pk_un (by omega)) (by rw [pk_us]; simp [LA, e]) (fun i hi => pk_un (by omega)) (by rw [e2]) (by rw [e1, e2]; exact h') ?_
        rw [e2, e3, e4, e5]
        exact (hO.grow sqn).grow sqn1
      · have g6 : sg < 10 := by omega
        have n11 : sg ≠ 11 := by omega
        have n12 : sg ≠ 12 := by omega
        have n13 : sg ≠ 13 := by omega
        have e2 : SN ns (j + 1) = SN ns j + 2 := by simp [SN, e, n11]
        refine s_state (by omega) ?_
        try simp (disch := omega) only [k_0, k_1, k_2, k_3, k_4, k_6, k_7, k_10, k_11, k_12, k_13, k_14, k_16, k_32, k_36, k_40, k_41, k_42, k_43, k_49, k_64, k_80, k_96, k_97, k_100, k_109, k_110, k_127, k_128, k_146, k_147, k_160, k_2304, k_4608, k_13824, nI_add, pk_mul, pk_sub, nI_clamp, q_in, nI_ltI, nI_leI, nI_eq, forall_eq, e_shl, e_bit, e_b0, e_b1, e_bn, e_andn, fa_or, fa_and, e_m1, e_nneg]
        repeat (first | refine And.intro (fun hh => absurd hh (by omega)) (fun _ => ?_) | refine And.intro (fun _ => ?_) (fun hh => absurd hh (by omega)) | refine And.intro (by omega) ?_)
        refine s_state (by omega) ?_
        try simp (disch := omega) only [k_0, k_1, k_2, k_3, k_4, k_6, k_7, k_10, k_11, k_12, k_13, k_14, k_16, k_32, k_36, k_40, k_41, k_42, k_43, k_49, k_64, k_80, k_96, k_97, k_100, k_109, k_110, k_127, k_128, k_146, k_147, k_160, k_2304, k_4608, k_13824, nI_add, pk_mul, pk_sub, nI_clamp, q_in, nI_ltI, nI_leI, nI_eq, forall_eq, e_shl, e_bit, e_b0, e_b1, e_bn, e_andn, fa_or, fa_and, e_m1, e_nneg]
        repeat (first | refine And.intro (fun hh => absurd hh (by omega)) (fun _ => ?_) | refine And.intro (fun _ => ?_) (fun hh => absurd hh (by omega)) | refine And.intro (by omega) ?_)
        rw [pk_us, pk_us]
        try simp (disch := omega) only [k_0, k_1, k_2, k_3, k_4, k_6, k_7, k_10, k_11, k_12, k_13, k_14, k_16, k_32, k_36, k_40, k_41, k_42, k_43, k_49, k_64, k_80, k_96, k_97, k_100, k_109, k_110, k_127, k_128, k_146, k_147, k_160, k_2304, k_4608, k_13824, nI_add, pk_mul, pk_sub, nI_clamp, q_in, nI_ltI, nI_leI, nI_eq, forall_eq, e_shl, e_bit, e_b0, e_b1, e_bn, e_andn, fa_or, fa_and, e_m1, e_nneg]
        repeat (first | refine And.intro (fun hh => absurd hh (by omega)) (fun _ => ?_) | refine And.intro (fun _ => ?_) (fun hh => absurd hh (by omega)) | refine And.intro (by omega) ?_)
        have e1 : EG ns (j + 1) = EG ns j := by simp [EG, e, g, n11, n12, n13]
        have e3 : SP ns (j + 1) = SP ns j + 1 := by simp [SP, e, g6]
        refine fin S _ _ _ _ _ _ _ rfl slt hfi hla (by rw [pk_us]; simp [FI, e, n11]) (fun i hi => pk_un (by omega)) (by rw [pk_us]; simp [LA, e, n11]) (fun i hi => pk_un (by omega)) (by rw [e2]) (by rw [e1, e2]; exact enc2) ?_
        rw [e2, e3]
        have o2 := (hO.grow sqn).grow sqn1
        refine ⟨fun q hq => ?_, fun s hs => ?_⟩
        · by_cases w : q = SP ns j
          · have a1 : SQ ns (j + 1) q = SN ns j := by simp [SQ, e, g6, w]
            have a2 : LQ ns (j + 1) q = sg := by simp [LQ, e, g6, w]
            rw [a1, a2, pk_us, pk_us]
            exact ⟨rfl, rfl⟩
          · have a1 : SQ ns (j + 1) q = SQ ns j q := by simp [SQ, w]
            have a2 : LQ ns (j + 1) q = LQ ns j q := by simp [LQ, w]
            have := sqn q (by omega)
            have h' := o2.1 q (by omega)
            rw [a1, a2]
            exact ⟨by rw [pk_un (by omega)]; exact h'.1, by rw [pk_un (by omega)]; exact h'.2⟩
        · by_cases w : s = SN ns j
          · exact Or.inl ⟨SP ns j, by omega, by simp [SQ, e, g6, w]⟩
          · rcases o2.2 s hs with ⟨q, h1, h2⟩ | h
            · refine Or.inl ⟨q, by omega, ?_⟩
              have : q ≠ SP ns j := by omega
              rw [h2]
              simp [SQ, this]
            · rw [pk_un w]; exact Or.inr h
    · have q' : sg = 13 := q
      repeat (first | refine And.intro (fun hh => absurd hh (by omega)) (fun _ => ?_) | refine And.intro (fun _ => ?_) (fun hh => absurd hh (by omega)) | refine And.intro (by omega) ?_)
      have tl : ∀ a ∈ T, a < j := fun a ha => slt a (List.mem_cons_of_mem _ ha)
      have sl1 : (((sg, l, r) : ND).2.1 :: T).length = T.length + 1 := rfl
      rw [sl1] at slen
      obtain ⟨hfi1, hfi2⟩ := hfi
      obtain ⟨hla1, hla2⟩ := hla
      have hfi1' : fi T.length = nI (FI ns j l) := hfi1
      have hla1' : la T.length = nI (LA ns j l) := hla1
      have fl : FRG (EG ns j) (SN ns j) (SP ns j) (SQ ns j) (tpl ns j l) := g6 _ List.mem_cons_self
      have f1 : FI ns j l < SN ns j := fl.1
      have f2 : LA ns j l < SN ns j := fl.2.1
      obtain ⟨z1, z2⟩ := hE.none (by omega) f2 fl.2.2.1
      have e2 : SN ns (j + 1) = SN ns j + 2 := by simp [SN, e, q']
      have enc2 : ENC (EG ns j) (SN ns j + 1 + 1) (upd (upd fre (SN ns j) (-1)) (SN ns j + 1) (-1)) (upd (upd too (SN ns j) (-1)) (SN ns j + 1) (-1)) := (hE.grow gE).grow gE1
      rw [sl1]
      rw [pk_sub (by omega), Nat.add_sub_cancel]
      unfold wp_X11_stars
      refine s_state (by omega) (s_state (by omega) ?_)
      try simp (disch := omega) only [k_0, k_1, k_2, k_3, k_4, k_6, k_7, k_10, k_11, k_12, k_13, k_14, k_16, k_32, k_36, k_40, k_41, k_42, k_43, k_49, k_64, k_80, k_96, k_97, k_100, k_109, k_110, k_127, k_128, k_146, k_147, k_160, k_2304, k_4608, k_13824, nI_add, pk_mul, pk_sub, nI_clamp, q_in, nI_ltI, nI_leI, nI_eq, forall_eq, e_shl, e_bit, e_b0, e_b1, e_bn, e_andn, fa_or, fa_and, e_m1, e_nneg]
      repeat (first | refine And.intro (fun hh => absurd hh (by omega)) (fun _ => ?_) | refine And.intro (fun _ => ?_) (fun hh => absurd hh (by omega)) | refine And.intro (by omega) ?_)
      rw [hfi1', hla1']
      refine s_joins enc2 (by omega) (by omega) (by omega) (by rw [pk_un (by omega), pk_us]) (fun fr1 to1 h1 u1 v1 => ?_)
      refine s_joins h1 (by omega) (by omega) (by omega) (v1 (by rw [pk_un (by omega), pk_us])) (fun fr2 to2 h2 u2 _ => ?_)
      try simp (disch := omega) only [k_0, k_1, k_2, k_3, k_4, k_6, k_7, k_10, k_11, k_12, k_13, k_14, k_16, k_32, k_36, k_40, k_41, k_42, k_43, k_49, k_64, k_80, k_96, k_97, k_100, k_109, k_110, k_127, k_128, k_146, k_147, k_160, k_2304, k_4608, k_13824, nI_add, pk_mul, pk_sub, nI_clamp, q_in, nI_ltI, nI_leI, nI_eq, forall_eq, e_shl, e_bit, e_b0, e_b1, e_bn, e_andn, fa_or, fa_and, e_m1, e_nneg]
      repeat (first | refine And.intro (fun hh => absurd hh (by omega)) (fun _ => ?_) | refine And.intro (fun _ => ?_) (fun hh => absurd hh (by omega)) | refine And.intro (by omega) ?_)
      have w1 := u1 (LA ns j l) (by omega)
      have w2 := u2 (LA ns j l) (by omega)
      refine s_joins h2 (by omega) (by omega) (by omega) (by rw [w2.2, w1.2, pk_un (by omega), pk_un (by omega)]; exact z2) (fun fr3 to3 h3 u3 v3 => ?_)
      try simp (disch := omega) only [k_0, k_1, k_2, k_3, k_4, k_6, k_7, k_10, k_11, k_12, k_13, k_14, k_16, k_32, k_36, k_40, k_41, k_42, k_43, k_49, k_64, k_80, k_96, k_97, k_100, k_109, k_110, k_127, k_128, k_146, k_147, k_160, k_2304, k_4608, k_13824, nI_add, pk_mul, pk_sub, nI_clamp, q_in, nI_ltI, nI_leI, nI_eq, forall_eq, e_shl, e_bit, e_b0, e_b1, e_bn, e_andn, fa_or, fa_and, e_m1, e_nneg]
      repeat (first | refine And.intro (fun hh => absurd hh (by omega)) (fun _ => ?_) | refine And.intro (fun _ => ?_) (fun hh => absurd hh (by omega)) | refine And.intro (by omega) ?_)
      refine s_joins h3 (by omega) (by omega) (by omega) (v3 (by rw [w2.1, w1.1, pk_un (by omega), pk_un (by omega)]; exact z1)) (fun fr4 to4 h4 u4 _ => ?_)
      try simp (disch := omega) only [k_0, k_1, k_2, k_3, k_4, k_6, k_7, k_10, k_11, k_12, k_13, k_14, k_16, k_32, k_36, k_40, k_41, k_42, k_43, k_49, k_64, k_80, k_96, k_97, k_100, k_109, k_110, k_127, k_128, k_146, k_147, k_160, k_2304, k_4608, k_13824, nI_add, pk_mul, pk_sub, nI_clamp, q_in, nI_ltI, nI_leI, nI_eq, forall_eq, e_shl, e_bit, e_b0, e_b1, e_bn, e_andn, fa_or, fa_and, e_m1, e_nneg]
      repeat (first | refine And.intro (fun hh => absurd hh (by omega)) (fun _ => ?_) | refine And.intro (fun _ => ?_) (fun hh => absurd hh (by omega)) | refine And.intro (by omega) ?_)
      subst q'
      have e1 : EG ns (j + 1) = starE (EG ns j) (SN ns j) (FI ns j l) (LA ns j l) := by simp [EG, e]
      have e3 : SP ns (j + 1) = SP ns j := by simp [SP, e]
      have e4 : SQ ns (j + 1) = SQ ns j := by funext q; simp [SQ, e]
      have e5 : LQ ns (j + 1) = LQ ns j := by funext q; simp [LQ, e]
      refine fin T _ _ _ _ _ _ _ rfl tl hfi2 hla2 (by rw [pk_us]; simp [FI, e]) (fun i hi => pk_un (by omega)) (by rw [pk_us]; simp [LA, e]) (fun i hi => pk_un (by omega)) (by rw [e2]) (by rw [e1, e2]; exact h4) ?_
      rw [e2, e3, e4, e5]
      exact (hO.grow sqn).grow sqn1
    · have q1' : 11 ≤ sg := q1
      have q2' : ¬ sg = 13 := q2
      have tl : ∀ a ∈ T, a < j := fun a ha => slt a (List.mem_cons_of_mem _ (List.mem_cons_of_mem _ ha))
      have sl1 : (((sg, l, r) : ND).2.2 :: ((sg, l, r) : ND).2.1 :: T).length = T.length + 1 + 1 := rfl
      rw [sl1] at slen
      obtain ⟨hfi1, hfi2, hfi3⟩ := hfi
      obtain ⟨hla1, hla2, hla3⟩ := hla
      have hfi1' : fi (T.length + 1) = nI (FI ns j r) := hfi1
      have hla1' : la (T.length + 1) = nI (LA ns j r) := hla1
      have hfi2' : fi T.length = nI (FI ns j l) := hfi2
      have hla2' : la T.length = nI (LA ns j l) := hla2
      have fR : FRG (EG ns j) (SN ns j) (SP ns j) (SQ ns j) (tpl ns j r) := g6 _ List.mem_cons_self
      have fL : FRG (EG ns j) (SN ns j) (SP ns j) (SQ ns j) (tpl ns j l) := g6 _ (List.mem_cons_of_mem _ List.mem_cons_self)
      have fl1 : FI ns j l < SN ns j := fL.1
      have fl2 : LA ns j l < SN ns j := fL.2.1
      have fr1 : FI ns j r < SN ns j := fR.1
      have fr2 : LA ns j r < SN ns j := fR.2.1
      have ap : LA ns j r ≠ LA ns j l := ((List.pairwise_cons.mp g7).1 _ List.mem_cons_self).2.2
      obtain ⟨zl1, zl2⟩ := hE.none (by omega) fl2 fL.2.2.1
      obtain ⟨zr1, zr2⟩ := hE.none (by omega) fr2 fR.2.2.1
      rw [sl1]
      try simp (disch := omega) only [k_0, k_1, k_2, k_3, k_4, k_6, k_7, k_10, k_11, k_12, k_13, k_14, k_16, k_32, k_36, k_40, k_41, k_42, k_43, k_49, k_64, k_80, k_96, k_97, k_100, k_109, k_110, k_127, k_128, k_146, k_147, k_160, k_2304, k_4608, k_13824, nI_add, pk_mul, pk_sub, nI_clamp, q_in, nI_ltI, nI_leI, nI_eq, forall_eq, e_shl, e_bit, e_b0, e_b1, e_bn, e_andn, fa_or, fa_and, e_m1, e_nneg, pk_m1]
      repeat (first | refine And.intro (fun hh => absurd hh (by omega)) (fun _ => ?_) | refine And.intro (fun _ => ?_) (fun hh => absurd hh (by omega)) | refine And.intro (by omega) ?_)
      refine ⟨fun g => ?_, fun g => ?_⟩
      · have g' : sg = 12 := by omega
        repeat (first | refine And.intro (fun hh => absurd hh (by omega)) (fun _ => ?_) | refine And.intro (fun _ => ?_) (fun hh => absurd hh (by omega)) | refine And.intro (by omega) ?_)
        have e2 : SN ns (j + 1) = SN ns j + 2 := by simp [SN, e, g']
        have enc2 : ENC (EG ns j) (SN ns j + 1 + 1) (upd (upd fre (SN ns j) (-1)) (SN ns j + 1) (-1)) (upd (upd too (SN ns j) (-1)) (SN ns j + 1) (-1)) := (hE.grow gE).grow gE1
        unfold wp_X11_sums
        rw [k_1, pk_sub (by omega), Nat.add_sub_cancel]
        refine s_state (by omega) (s_state (by omega) ?_)
        try simp (disch := omega) only [k_0, k_1, k_2, k_3, k_4, k_6, k_7, k_10, k_11, k_12, k_13, k_14, k_16, k_32, k_36, k_40, k_41, k_42, k_43, k_49, k_64, k_80, k_96, k_97, k_100, k_109, k_110, k_127, k_128, k_146, k_147, k_160, k_2304, k_4608, k_13824, nI_add, pk_mul, pk_sub, nI_clamp, q_in, nI_ltI, nI_leI, nI_eq, forall_eq, e_shl, e_bit, e_b0, e_b1, e_bn, e_andn, fa_or, fa_and, e_m1, e_nneg]
        repeat (first | refine And.intro (fun hh => absurd hh (by omega)) (fun _ => ?_) | refine And.intro (fun _ => ?_) (fun hh => absurd hh (by omega)) | refine And.intro (by omega) ?_)
        rw [hfi1', hla1', hfi2', hla2']
        refine s_joins enc2 (by omega) (by omega) (by omega) (by rw [pk_un (by omega), pk_us]) (fun fra toa h1 u1 v1 => ?_)
        try simp (disch := omega) only [k_0, k_1, k_2, k_3, k_4, k_6, k_7, k_10, k_11, k_12, k_13, k_14, k_16, k_32, k_36, k_40, k_41, k_42, k_43, k_49, k_64, k_80, k_96, k_97, k_100, k_109, k_110, k_127, k_128, k_146, k_147, k_160, k_2304, k_4608, k_13824, nI_add, pk_mul, pk_sub, nI_clamp, q_in, nI_ltI, nI_leI, nI_eq, forall_eq, e_shl, e_bit, e_b0, e_b1, e_bn, e_andn, fa_or, fa_and, e_m1, e_nneg]
        repeat (first | refine And.intro (fun hh => absurd hh (by omega)) (fun _ => ?_) | refine And.intro (fun _ => ?_) (fun hh => absurd hh (by omega)) | refine And.intro (by omega) ?_)
        refine s_joins h1 (by omega) (by omega) (by omega) (v1 (by rw [pk_un (by omega), pk_us])) (fun frb tob h2 u2 _ => ?_)
        try simp (disch := omega) only [k_0, k_1, k_2, k_3, k_4, k_6, k_7, k_10, k_11, k_12, k_13, k_14, k_16, k_32, k_36, k_40, k_41, k_42, k_43, k_49, k_64, k_80, k_96, k_97, k_100, k_109, k_110, k_127, k_128, k_146, k_147, k_160, k_2304, k_4608, k_13824, nI_add, pk_mul, pk_sub, nI_clamp, q_in, nI_ltI, nI_leI, nI_eq, forall_eq, e_shl, e_bit, e_b0, e_b1, e_bn, e_andn, fa_or, fa_and, e_m1, e_nneg]
        repeat (first | refine And.intro (fun hh => absurd hh (by omega)) (fun _ => ?_) | refine And.intro (fun _ => ?_) (fun hh => absurd hh (by omega)) | refine And.intro (by omega) ?_)
        have w1 := u1 (LA ns j l) (by omega)
        have w2 := u2 (LA ns j l) (by omega)
        have x1 := u1 (LA ns j r) (by omega)
        have x2 := u2 (LA ns j r) (by omega)
        refine s_joins h2 (by omega) (by omega) (by omega) (by rw [w2.2, w1.2, pk_un (by omega), pk_un (by omega)]; exact zl2) (fun frc toc h3 u3 _ => ?_)
        try simp (disch := omega) only [k_0, k_1, k_2, k_3, k_4, k_6, k_7, k_10, k_11, k_12, k_13, k_14, k_16, k_32, k_36, k_40, k_41, k_42, k_43, k_49, k_64, k_80, k_96, k_97, k_100, k_109, k_110, k_127, k_128, k_146, k_147, k_160, k_2304, k_4608, k_13824, nI_add, pk_mul, pk_sub, nI_clamp, q_in, nI_ltI, nI_leI, nI_eq, forall_eq, e_shl, e_bit, e_b0, e_b1, e_bn, e_andn, fa_or, fa_and, e_m1, e_nneg]
        repeat (first | refine And.intro (fun hh => absurd hh (by omega)) (fun _ => ?_) | refine And.intro (fun _ => ?_) (fun hh => absurd hh (by omega)) | refine And.intro (by omega) ?_)
        have x3 := u3 (LA ns j r) ap
        refine s_joins h3 (by omega) (by omega) (by omega) (by rw [x3.2, x2.2, x1.2, pk_un (by omega), pk_un (by omega)]; exact zr2) (fun frd tod h4 u4 _ => ?_)
        try simp (disch := omega) only [k_0, k_1, k_2, k_3, k_4, k_6, k_7, k_10, k_11, k_12, k_13, k_14, k_16, k_32, k_36, k_40, k_41, k_42, k_43, k_49, k_64, k_80, k_96, k_97, k_100, k_109, k_110, k_127, k_128, k_146, k_147, k_160, k_2304, k_4608, k_13824, nI_add, pk_mul, pk_sub, nI_clamp, q_in, nI_ltI, nI_leI, nI_eq, forall_eq, e_shl, e_bit, e_b0, e_b1, e_bn, e_andn, fa_or, fa_and, e_m1, e_nneg]
        repeat (first | refine And.intro (fun hh => absurd hh (by omega)) (fun _ => ?_) | refine And.intro (fun _ => ?_) (fun hh => absurd hh (by omega)) | refine And.intro (by omega) ?_)
        subst g'
        have e1 : EG ns (j + 1) = sumE (EG ns j) (SN ns j) (FI ns j l) (FI ns j r) (LA ns j l) (LA ns j r) := by simp [EG, e]
        have e3 : SP ns (j + 1) = SP ns j := by simp [SP, e]
        have e4 : SQ ns (j + 1) = SQ ns j := by funext q; simp [SQ, e]
        have e5 : LQ ns (j + 1) = LQ ns j := by funext q; simp [LQ, e]
        refine fin T _ _ _ _ _ _ _ rfl tl hfi3 hla3 (by rw [pk_us]; simp [FI, e]) (fun i hi => pk_un (by omega)) (by rw [pk_us]; simp [LA, e]) (fun i hi => pk_un (by omega)) (by rw [e2]) (by rw [e1, e2]; exact h4) ?_
        rw [e2, e3, e4, e5]
        exact (hO.grow sqn).grow sqn1
      · rw [Nat.add_sub_cancel]
        try simp (disch := omega) only [k_0, k_1, k_2, k_3, k_4, k_6, k_7, k_10, k_11, k_12, k_13, k_14, k_16, k_32, k_36, k_40, k_41, k_42, k_43, k_49, k_64, k_80, k_96, k_97, k_100, k_109, k_110, k_127, k_128, k_146, k_147, k_160, k_2304, k_4608, k_13824, nI_add, pk_mul, pk_sub, nI_clamp, q_in, nI_ltI, nI_leI, nI_eq, forall_eq, e_shl, e_bit, e_b0, e_b1, e_bn, e_andn, fa_or, fa_and, e_m1, e_nneg]
        repeat (first | refine And.intro (fun hh => absurd hh (by omega)) (fun _ => ?_) | refine And.intro (fun _ => ?_) (fun hh => absurd hh (by omega)) | refine And.intro (by omega) ?_)
        rw [hfi1', hla2']
        refine s_joins hE (by omega) (by omega) (by omega) zl2 (fun fra toa h1 _ _ => ?_)
        try simp (disch := omega) only [k_0, k_1, k_2, k_3, k_4, k_6, k_7, k_10, k_11, k_12, k_13, k_14, k_16, k_32, k_36, k_40, k_41, k_42, k_43, k_49, k_64, k_80, k_96, k_97, k_100, k_109, k_110, k_127, k_128, k_146, k_147, k_160, k_2304, k_4608, k_13824, nI_add, pk_mul, pk_sub, nI_clamp, q_in, nI_ltI, nI_leI, nI_eq, forall_eq, e_shl, e_bit, e_b0, e_b1, e_bn, e_andn, fa_or, fa_and, e_m1, e_nneg]
        repeat (first | refine And.intro (fun hh => absurd hh (by omega)) (fun _ => ?_) | refine And.intro (fun _ => ?_) (fun hh => absurd hh (by omega)) | refine And.intro (by omega) ?_)
        rw [hla1']
        subst g
        have e1 : EG ns (j + 1) = adE (EG ns j) (LA ns j l) (FI ns j r) := by simp [EG, e]
        have e2 : SN ns (j + 1) = SN ns j := by simp [SN, e]
        have e3 : SP ns (j + 1) = SP ns j := by simp [SP, e]
        have e4 : SQ ns (j + 1) = SQ ns j := by funext q; simp [SQ, e]
        have e5 : LQ ns (j + 1) = LQ ns j := by funext q; simp [LQ, e]
        refine fin T _ _ _ _ _ _ _ rfl tl hfi3 hla3 (by rw [hfi2']; simp [FI, e]) (fun i hi => rfl) (by rw [pk_us]; simp [LA, e]) (fun i hi => pk_un (by omega)) (by rw [e2]) (by rw [e1, e2]; exact h1) ?_
        rw [e2, e3, e4, e5]
        exact hO
  · rintro again x1 n0 on to fre too fi la ⟨S, hS, rfl, rfl, hE, hO, hfi, hla⟩
    rw [hst] at hS
    cases hS
    unfold wp_X11_builds_L9
    try simp (disch := omega) only [k_0, k_1, k_2, k_3, k_4, k_6, k_7, k_10, k_11, k_12, k_13, k_14, k_16, k_32, k_36, k_40, k_41, k_42, k_43, k_49, k_64, k_80, k_96, k_97, k_100, k_109, k_110, k_127, k_128, k_146, k_147, k_160, k_2304, k_4608, k_13824, nI_add, pk_mul, pk_sub, nI_clamp, q_in, nI_ltI, nI_leI, nI_eq, forall_eq, e_shl, e_bit, e_b0, e_b1, e_bn, e_andn, fa_or, fa_and, e_m1, e_nneg]
    repeat (first | refine And.intro (fun hh => absurd hh (by omega)) (fun _ => ?_) | refine And.intro (fun _ => ?_) (fun hh => absurd hh (by omega)) | refine And.intro (by omega) ?_)
    have h0 : fi 0 = nI (FI ns ns.length tp) := hfi.1
    rw [h0]
    exact hK _ _ _ _ _ _ hE hO hla.1
