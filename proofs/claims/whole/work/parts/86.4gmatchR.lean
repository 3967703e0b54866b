/-! a word against a form, by the reference -/
theorem LQ_lt {k n : Nat} {ns : List ND} {S0 : List Nat} (hk : k ≤ 6) (hsg : sgOK k ns) (hst : stk ns n = some S0) (hl : n ≤ ns.length) : ∀ j, j ≤ n → ∀ q, q < SP ns j → LQ ns j q < k
  | 0, _, q, hq => absurd hq (Nat.not_lt_zero _)
  | j + 1, hj, q, hq => by
    have ih := LQ_lt hk hsg hst hl j (by omega)
    obtain ⟨sg, l, r, e, hc⟩ := nd_cases hk hsg hst hl hj
    by_cases g : sg < 10
    · have e3 : SP ns (j + 1) = SP ns j + 1 := by simp [SP, e, g]
      by_cases w : q = SP ns j
      · have a2 : LQ ns (j + 1) q = sg := by simp [LQ, e, g, w]
        rw [a2]; omega
      · have a2 : LQ ns (j + 1) q = LQ ns j q := by simp [LQ, w]
        rw [a2]; exact ih q (by omega)
    · have e3 : SP ns (j + 1) = SP ns j := by simp [SP, e, g]
      have a2 : LQ ns (j + 1) q = LQ ns j q := by simp [LQ, e, g]
      rw [a2]; exact ih q (by omega)
def FIN (fr : Nat → Nat) (u : List Nat) (k sp : Nat) (lq : Nat → Nat) (F : Nat) (fo : Nat → Nat) (lm lt : Nat) : Prop := (wt u 6 = 1 ∧ lt = 0) ∨ ∃ q, q < sp ∧ AB fr u k sp lq F fo (wt u 6) (wt u 6 - 1) q ∧ lm.testBit q = true
def FINx (fr : Nat → Nat) (u : List Nat) (k : Nat) (ns : List ND) (tp : Nat) : Prop := FIN fr u k (SP ns ns.length) (LQ ns ns.length) (FM ns ns.length tp) (FO ns ns.length) (LM ns ns.length tp) (LT ns ns.length tp)
theorem SB_zero {sets : Nat → Int64} {b t : Nat} (h : sets (4 * b + t / 64) = 0) : SB sets b t = false := by
  unfold SB
  rw [h]
  exact bt_0 _
theorem s_matchesR {v txt one cn st bf fm wt' on to fre too fi la opn : Nat → Int32} {sets : Nat → Int64} {q1 q2 q3 q4 q5 : Int32} {fr : Nat → Nat} {k w : Nat} {u tx : List Nat} (irr : ∀ a, ind fr a a = false) (sym : ∀ a b, ind fr a b = ind fr b a) (hv0 : v 0 = nI k) (hf : FV v fr) (hk1 : 1 ≤ k) (hk : k ≤ 6) (h80 : tx.length ≤ 80) (h128 : ∀ b ∈ tx, b < 128) (ht : RW txt tx) (hok : OKT k tx) (hw : w < 6) (hW : WV v w u) (hu : ∀ x ∈ u, x < k) {K : Int32 → Int32 → Int32 → Int32 → Int32 → Int32 → (Nat → Int32) → (Nat → Int32) → (Nat → Int32) → (Nat → Int32) → (Nat → Int32) → (Nat → Int32) → (Nat → Int32) → (Nat → Int32) → (Nat → Int32) → (Nat → Int32) → (Nat → Int32) → (Nat → Int32) → (Nat → Int64) → (Nat → Int32) → Prop} (hK : ∀ o1 o2 o3 o4 o5 o6 o7 o8 o9 o10 o11 o12 o13 o14 o15 o16 o17 o18 o19, K (bI (cl (FINx fr u k (nodes tx) (topN tx)))) o1 o2 o3 o4 o5 o6 o7 o8 o9 o10 o11 o12 o13 o14 o15 o16 o17 o18 o19) : wp_X11_matches (nI tx.length) q1 q2 q3 q4 q5 v txt one cn st bf fm wt' on to fre too fi la sets opn (nI w) K := by
  have hu6 : ∀ x ∈ u, x < 6 := fun x hx => Nat.lt_of_lt_of_le (hu x hx) hk
  have h16 := hW.2.1
  have hWt := wt_le hu6 h16
  have hWp := wt_pos u 6
  unfold wp_X11_matches
  refine s_isWord hw (br_f' (by decide) (s_faultOK hv0 hk1 hk h80 h128 ht (fun _ => br_t (by decide) ?_) (fun q => absurd hok q)))
  refine s_takesOne hw hW (fun one ho => ?_)
  refine s_findBeg hu6 ho h16 (fun cn st bf hc hs hB => ?_)
  refine s_findForm hv0 hk1 hk h80 h128 ht hok (fun wts fm' wt' hfm => ?_)
  obtain ⟨ns0, l0, -, -, -, -, hst, hsg, hlen, -⟩ := nodes_ok hk h80 hok
  have h160 : ∀ j, j ≤ (nodes tx).length → SN (nodes tx) j ≤ 160 := fun j hj => SN_le h80 hj
  generalize nodes tx = ns at *
  generalize topN tx = tp at *
  refine s_builds hk hsg hst hlen h160 hfm (fun on' to' fre' too' fi' la' hE hO hla0 => ?_)
  obtain ⟨g1, g2, g3, g4, g5, g6, g7⟩ := GI_all hk hsg hst (Nat.le_refl _) (Nat.le_refl _) hst
  obtain ⟨p1, p2, p3, p4, p5, p6, p7, p8⟩ := g6 (tpl ns ns.length tp) List.mem_cons_self
  have hlq := LQ_lt hk hsg hst (Nat.le_refl _) ns.length (Nat.le_refl _)
  have n160 := h160 ns.length (Nat.le_refl _)
  unfold FINx FIN at hK
  replace p1 : FI ns ns.length tp < SN ns ns.length := p1
  replace p2 : LA ns ns.length tp < SN ns ns.length := p2
  replace p4 : ∀ q, q < SP ns ns.length → ((FM ns ns.length tp).testBit q = true ↔ RT (EG ns ns.length) (FI ns ns.length tp) (SQ ns ns.length q)) := p4
  replace p5 : ∀ q, q < SP ns ns.length → ((LM ns ns.length tp).testBit q = true ↔ RT (EG ns ns.length) (SQ ns ns.length q + 1) (LA ns ns.length tp)) := p5
  replace p6 : LT ns ns.length tp = 0 ↔ RT (EG ns ns.length) (FI ns ns.length tp) (LA ns ns.length tp) := p6
  clear g4 g5 g6 g7 p3 p7 p8 hfm hsg hst h160 hlen
  generalize EG ns ns.length = E at *
  generalize SN ns ns.length = n at *
  generalize SP ns ns.length = sp at *
  generalize SQ ns ns.length = sq at *
  generalize LQ ns ns.length = lq at *
  generalize FO ns ns.length = fo at *
  generalize FM ns ns.length tp = F at *
  generalize LM ns ns.length tp = lm at *
  generalize LT ns ns.length tp = lt at *
  generalize FI ns ns.length tp = f0 at *
  generalize LA ns ns.length tp = la0 at *
  refine for_X11_matches_L39 _ _ (4 * wt u 6) (fun i sets => ∀ j, j < i → sets j = 0) ?_ ?_ (0) _ _ rfl (Nat.zero_le _) (fun j hj => absurd hj (Nat.not_lt_zero _))
  · intro again i sets hi h0 hag
    unfold wp_X11_matches_L39
    try simp (disch := omega) only [k_0, k_1, k_2, k_3, k_4, k_6, k_7, k_10, k_11, k_12, k_13, k_14, k_16, k_32, k_36, k_40, k_41, k_42, k_43, k_49, k_64, k_80, k_96, k_97, k_100, k_109, k_110, k_127, k_128, k_146, k_147, k_160, k_2304, k_4608, k_13824, nI_add, pk_mul, pk_sub, nI_clamp, q_in, nI_ltI, nI_leI, nI_eq, forall_eq, e_shl, e_bit, e_b0, e_b1, e_bn, e_andn, fa_or, fa_and, e_m1, e_nneg]
    repeat (first | refine And.intro (fun hh => absurd hh (by omega)) (fun _ => ?_) | refine And.intro (fun _ => ?_) (fun hh => absurd hh (by omega)) | refine And.intro (by omega) ?_)
    exact hag _ (fun j hj => by
      by_cases e : j = i
      · subst e; exact pk_uLs
      · rw [pk_uLn e]; exact h0 j (by omega))
  intro again sets h0
  unfold wp_X11_matches_L39
  try simp (disch := omega) only [k_0, k_1, k_2, k_3, k_4, k_6, k_7, k_10, k_11, k_12, k_13, k_14, k_16, k_32, k_36, k_40, k_41, k_42, k_43, k_49, k_64, k_80, k_96, k_97, k_100, k_109, k_110, k_127, k_128, k_146, k_147, k_160, k_2304, k_4608, k_13824, nI_add, pk_mul, pk_sub, nI_clamp, q_in, nI_ltI, nI_leI, nI_eq, forall_eq, e_shl, e_bit, e_b0, e_b1, e_bn, e_andn, fa_or, fa_and, e_m1, e_nneg]
  repeat (first | refine And.intro (fun hh => absurd hh (by omega)) (fun _ => ?_) | refine And.intro (fun _ => ?_) (fun hh => absurd hh (by omega)) | refine And.intro (by omega) ?_)
  have z : ∀ b t, b < wt u 6 → t < 256 → SB sets b t = false := fun b t hb ht => SB_zero (h0 _ (by omega))
  refine s_comes hE g1 n160 (b := 0) (by omega) p1 (fun s t hs he => by
    rw [z 0 s hWp (by have := g1 s t he; omega)] at hs
    cases hs) (fun sets1 op1 r1 r2 => ?_)
  have cl1 : ∀ b' s t, b' < wt u 6 → SB sets1 b' s = true → E s t → SB sets1 b' t = true := SB_cl g1 n160 (fun b' s t hb hs he => by
    rw [z b' s hb (by have := g1 s t he; omega)] at hs
    cases hs) r1 r2
  refine for_X11_matches_L70 _ _ _ _ _ _ _ _ _ _ _ (wt u 6) (fun b st' op => (∀ b' s t, b' < wt u 6 → SB st' b' s = true → E s t → SB st' b' t = true) ∧ (∀ b' t, b' < wt u 6 → t < 256 → (SB st' b' t = true ↔ TS E sq f0 sp (AB fr u k sp lq F fo b) b' t))) ?_ ?_ (0) _ _ _ rfl (Nat.zero_le _) (⟨cl1, fun b' t hb ht => ?_⟩)
  · rintro again2 b st1 op hb ⟨h1, h2⟩ hag
    unfold wp_X11_matches_L70
    try simp (disch := omega) only [k_0, k_1, k_2, k_3, k_4, k_6, k_7, k_10, k_11, k_12, k_13, k_14, k_16, k_32, k_36, k_40, k_41, k_42, k_43, k_49, k_64, k_80, k_96, k_97, k_100, k_109, k_110, k_127, k_128, k_146, k_147, k_160, k_2304, k_4608, k_13824, nI_add, pk_mul, pk_sub, nI_clamp, q_in, nI_ltI, nI_leI, nI_eq, forall_eq, e_shl, e_bit, e_b0, e_b1, e_bn, e_andn, fa_or, fa_and, e_m1, e_nneg]
    repeat (first | refine And.intro (fun hh => absurd hh (by omega)) (fun _ => ?_) | refine And.intro (fun _ => ?_) (fun hh => absurd hh (by omega)) | refine And.intro (by omega) ?_)
    refine for_X11_matches_L81 _ _ _ _ _ _ _ _ _ _ _ (k) (fun x st' op => (∀ b' s t, b' < wt u 6 → SB st' b' s = true → E s t → SB st' b' t = true) ∧ (∀ b' t, b' < wt u 6 → t < 256 → (SB st' b' t = true ↔ TS E sq f0 sp (AX fr u sp lq (NXq (AB fr u k sp lq F fo b) sp F fo b) (AB fr u k sp lq F fo b) b x) b' t))) ?_ ?_ (0) _ _ _ rfl (Nat.zero_le _) (⟨h1, h2⟩)
    · rintro again3 x st2 op2 hx ⟨k1, k2⟩ hag3
      unfold wp_X11_matches_L81
      rw [show (0 : Int32).toNatClampNeg = 0 from rfl, hv0]
      try simp (disch := omega) only [k_0, k_1, k_2, k_3, k_4, k_6, k_7, k_10, k_11, k_12, k_13, k_14, k_16, k_32, k_36, k_40, k_41, k_42, k_43, k_49, k_64, k_80, k_96, k_97, k_100, k_109, k_110, k_127, k_128, k_146, k_147, k_160, k_2304, k_4608, k_13824, nI_add, pk_mul, pk_sub, nI_clamp, q_in, nI_ltI, nI_leI, nI_eq, forall_eq, e_shl, e_bit, e_b0, e_b1, e_bn, e_andn, fa_or, fa_and, e_m1, e_nneg]
      repeat (first | refine And.intro (fun hh => absurd hh (by omega)) (fun _ => ?_) | refine And.intro (fun _ => ?_) (fun hh => absurd hh (by omega)) | refine And.intro (by omega) ?_)
      refine s_canCome irr sym hv0 hf hk hu h16 hWt hc hs hB hb (by omega) ?_
      cases hcc : cc fr u b x with
      | false =>
        refine br_t (by decide) (hag3 _ _ ⟨k1, fun b' t hb' ht' => ?_⟩)
        rw [k2 b' t hb' ht']
        unfold TS
        simp only [AX_s, hcc]
        simp
      | true =>
        have blt := cc_lt irr sym hu hb (by omega) hcc
        refine br_f (by decide) ?_
        refine s_goesOn (N := wt u 6) (w := wt u x) hE g1 n160 hO g2 (fun q hq => by have := hlq q hq; omega) (by omega) hWt hb blt (wt_pos u x) (hs x (by omega)) k1 (fun st3 op3 m1 m2 m3 => ?_)
        try simp (disch := omega) only [k_0, k_1, k_2, k_3, k_4, k_6, k_7, k_10, k_11, k_12, k_13, k_14, k_16, k_32, k_36, k_40, k_41, k_42, k_43, k_49, k_64, k_80, k_96, k_97, k_100, k_109, k_110, k_127, k_128, k_146, k_147, k_160, k_2304, k_4608, k_13824, nI_add, pk_mul, pk_sub, nI_clamp, q_in, nI_ltI, nI_leI, nI_eq, forall_eq, e_shl, e_bit, e_b0, e_b1, e_bn, e_andn, fa_or, fa_and, e_m1, e_nneg]
        have nx : ∀ q, q < sp → (SB st2 b (sq q) = true ↔ NXq (AB fr u k sp lq F fo b) sp F fo b q) := by
          intro q hq
          rw [k2 b (sq q) hb (by have := g2 q hq; omega)]
          unfold TS NXq
          simp only [AX_low (Nat.le_refl b)]
          by_cases b0 : b = 0
          · subst b0
            rw [if_pos rfl, p4 q hq]
            constructor
            · rintro (w | ⟨p, -, w, -⟩)
              · exact w.2
              · exact absurd w (AB_0 0)
            · exact fun w => Or.inl ⟨rfl, w⟩
          · rw [if_neg b0]
            constructor
            · rintro (w | ⟨p, w1, w2, w3⟩)
              · exact absurd w.1 b0
              · exact ⟨p, w1, w2, (g3 p q w1 hq).mpr w3⟩
            · rintro ⟨p, w1, w2, w3⟩
              exact Or.inr ⟨p, w1, w2, (g3 p q w1 hq).mp w3⟩
        refine hag3 _ _ ⟨m1, fun b' t hb' ht' => ?_⟩
        by_cases e : b' = b + wt u x
        · subst e
          rw [m3 t ht', k2 _ t hb' ht']
          unfold TS
          simp only [AX_s]
          constructor
          · rintro ((w | ⟨q, w1, w2, w3⟩) | ⟨q, w1, w2, w3, w4⟩)
            · exact Or.inl w
            · exact Or.inr ⟨q, w1, Or.inl w2, w3⟩
            · exact Or.inr ⟨q, w1, Or.inr ⟨trivial, hcc, w1, w2, (nx q w1).mp w3⟩, w4⟩
          · rintro (w | ⟨q, w1, w2 | ⟨-, -, -, w2, w3⟩, w4⟩)
            · exact Or.inl (Or.inl w)
            · exact Or.inl (Or.inr ⟨q, w1, w2, w4⟩)
            · exact Or.inr ⟨q, w1, w2, (nx q w1).mpr w3, w4⟩
        · rw [m2 b' t e ht', k2 b' t hb' ht']
          unfold TS
          simp only [AX_s, e, false_and, or_false]
    · rintro again3 st2 op2 ⟨k1, k2⟩
      unfold wp_X11_matches_L81
      rw [show (0 : Int32).toNatClampNeg = 0 from rfl, hv0]
      try simp (disch := omega) only [k_0, k_1, k_2, k_3, k_4, k_6, k_7, k_10, k_11, k_12, k_13, k_14, k_16, k_32, k_36, k_40, k_41, k_42, k_43, k_49, k_64, k_80, k_96, k_97, k_100, k_109, k_110, k_127, k_128, k_146, k_147, k_160, k_2304, k_4608, k_13824, nI_add, pk_mul, pk_sub, nI_clamp, q_in, nI_ltI, nI_leI, nI_eq, forall_eq, e_shl, e_bit, e_b0, e_b1, e_bn, e_andn, fa_or, fa_and, e_m1, e_nneg]
      repeat (first | refine And.intro (fun hh => absurd hh (by omega)) (fun _ => ?_) | refine And.intro (fun _ => ?_) (fun hh => absurd hh (by omega)) | refine And.intro (by omega) ?_)
      exact hag _ _ ⟨k1, k2⟩
  · rintro again2 st1 op ⟨h1, h2⟩
    unfold wp_X11_matches_L70
    try simp (disch := omega) only [k_0, k_1, k_2, k_3, k_4, k_6, k_7, k_10, k_11, k_12, k_13, k_14, k_16, k_32, k_36, k_40, k_41, k_42, k_43, k_49, k_64, k_80, k_96, k_97, k_100, k_109, k_110, k_127, k_128, k_146, k_147, k_160, k_2304, k_4608, k_13824, nI_add, pk_mul, pk_sub, nI_clamp, q_in, nI_ltI, nI_leI, nI_eq, forall_eq, e_shl, e_bit, e_b0, e_b1, e_bn, e_andn, fa_or, fa_and, e_m1, e_nneg]
    repeat (first | refine And.intro (fun hh => absurd hh (by omega)) (fun _ => ?_) | refine And.intro (fun _ => ?_) (fun hh => absurd hh (by omega)) | refine And.intro (by omega) ?_)
    rw [hla0]
    refine s_hasS (by omega) (by omega) ?_
    have e9 : SB st1 (wt u 6 - 1) la0 = cl ((wt u 6 = 1 ∧ lt = 0) ∨ ∃ q, q < sp ∧ AB fr u k sp lq F fo (wt u 6) (wt u 6 - 1) q ∧ lm.testBit q = true) := by
      have iff1 : SB st1 (wt u 6 - 1) la0 = true ↔ ((wt u 6 = 1 ∧ lt = 0) ∨ ∃ q, q < sp ∧ AB fr u k sp lq F fo (wt u 6) (wt u 6 - 1) q ∧ lm.testBit q = true) := by
        rw [h2 _ _ (by omega) (by omega)]
        unfold TS
        rw [← p6]
        constructor
        · rintro (⟨w1, w2⟩ | ⟨q, w1, w2, w3⟩)
          · exact Or.inl ⟨by omega, w2⟩
          · exact Or.inr ⟨q, w1, w2, (p5 q w1).mpr w3⟩
        · rintro (⟨w1, w2⟩ | ⟨q, w1, w2, w3⟩)
          · exact Or.inl ⟨by omega, w2⟩
          · exact Or.inr ⟨q, w1, w2, (p5 q w1).mp w3⟩
      cases hsb : SB st1 (wt u 6 - 1) la0 with
      | true => exact (cl_t (iff1.mp hsb)).symm
      | false => exact (cl_ff (fun q => by rw [iff1.mpr q] at hsb; cases hsb)).symm
    rw [e9]
    cases hcl : cl ((wt u 6 = 1 ∧ lt = 0) ∨ ∃ q, q < sp ∧ AB fr u k sp lq F fo (wt u 6) (wt u 6 - 1) q ∧ lm.testBit q = true) with
    | false => rw [hcl] at hK; exact br_t (by decide) (hK _ _ _ _ _ _ _ _ _ _ _ _ _ _ _ _ _ _ _)
    | true => rw [hcl] at hK; exact br_f (by decide) (hK _ _ _ _ _ _ _ _ _ _ _ _ _ _ _ _ _ _ _)
  · unfold TS
    by_cases e : b' = 0
    · subst e
      rw [r2 t ht, z 0 t hb ht]
      constructor
      · rintro (w | w)
        · cases w
        · exact Or.inl ⟨rfl, w⟩
      · rintro (w | ⟨q, -, w, -⟩)
        · exact Or.inr w.2
        · exact w.elim
    · rw [r1 b' t e ht, z b' t hb ht]
      constructor
      · intro w; cases w
      · rintro (w | ⟨q, -, w, -⟩)
        · exact absurd w.1 e
        · exact w.elim
