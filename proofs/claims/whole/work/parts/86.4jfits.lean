/-! a word against a form, by the class -/
theorem AX_sp {fr : Nat → Nat} {u : List Nat} {sp : Nat} {lq : Nat → Nat} {N : Nat → Prop} {A : Nat → Nat → Prop} {b b' q : Nat} (hA : A b' q → q < sp) : ∀ x, AX fr u sp lq N A b x b' q → q < sp
  | 0, h => hA h
  | x + 1, h => by
    rcases AX_s.mp h with h | h
    · exact AX_sp hA x h
    · exact h.2.2.1
theorem AB_sp {fr : Nat → Nat} {u : List Nat} {k sp : Nat} {lq : Nat → Nat} {F : Nat} {fo : Nat → Nat} : ∀ {b b' q : Nat}, AB fr u k sp lq F fo b b' q → q < sp
  | 0, _, _, h => h.elim
  | _ + 1, _, _, h => AX_sp (fun h => AB_sp h) _ h
theorem s_findNext {sp b tp F : Nat} {fo : Nat → Nat} {fi fol en nx : Nat → Int64} {A : Nat → Nat → Prop} (hsp : sp ≤ 80) (hF : F < 2 ^ sp) (hb : b < 2304) (htp : tp < 160) (h1 : RMK fi tp F) (h2 : ∀ p, p < 80 → RMK fol p (fo p)) (h3 : ∀ p, p < sp → (RQ en b p = true ↔ A b p)) {K : (Nat → Int64) → Prop} (hK : ∀ nx', (∀ q, q < 128 → (RQ nx' 0 q = true ↔ NXq A sp F fo b q)) → K nx') : wp_X2_findNext (nI sp) fi fol en nx (nI tp) (nI b) K := by
  unfold wp_X2_findNext
  refine s_fillL (by decide) _ _ (fun nx1 z1 => ?_)
  have zr : ∀ q, q < 128 → RQ nx1 0 q = false := fun q hq => by
    unfold RQ
    rw [z1 _ (by omega), bt_0]
  by_cases b0 : b = 0
  · subst b0
    refine br_t' rfl (s_include rws2 rws320 (b := 0) (by decide) htp (fun nx' hi => hK _ (fun q hq => ?_)))
    rw [hi.1 q hq, zr q hq, Bool.false_or]
    show RQ fi tp q = true ↔ _
    rw [h1 q hq]
    unfold NXq
    rw [if_pos rfl]
  · refine br_f' (by rw [k_0, q_inj (by omega) (by omega)]; exact b0) ?_
    refine for_X2_findNext_L28 _ _ _ _ _ (sp) (fun i nx' => ∀ q, q < 128 → (RQ nx' 0 q = true ↔ ∃ p, p < i ∧ A b p ∧ (fo p).testBit q = true)) ?_ ?_ (0) _ _ rfl (Nat.zero_le _) (fun q hq => ?_)
    · intro again i nx' hi hn hag
      unfold wp_X2_findNext_L28
      try simp (disch := omega) only [k_0, k_1, k_2, k_3, k_4, k_6, k_7, k_10, k_11, k_12, k_13, k_14, k_16, k_32, k_36, k_40, k_41, k_42, k_43, k_49, k_64, k_80, k_96, k_97, k_100, k_109, k_110, k_127, k_128, k_146, k_147, k_160, k_2304, k_4608, k_13824, nI_add, pk_mul, pk_sub, nI_clamp, q_in, nI_ltI, nI_leI, nI_eq, forall_eq, e_shl, e_bit, e_b0, e_b1, e_bn, e_andn, fa_or, fa_and, e_m1, e_nneg]
      repeat (first | refine And.intro (fun hh => absurd hh (by omega)) (fun _ => ?_) | refine And.intro (fun _ => ?_) (fun hh => absurd hh (by omega)) | refine And.intro (by omega) ?_)
      refine s_contains rws4608 hb (by omega) ?_
      cases hb1 : RQ en b i with
      | false =>
        refine br_t (by decide) (hag _ (fun q hq => ?_))
        rw [hn q hq]
        constructor
        · rintro ⟨p, a1, a2⟩
          exact ⟨p, by omega, a2⟩
        · rintro ⟨p, a1, a2, a3⟩
          by_cases e : p = i
          · subst e
            rw [(h3 p hi).mpr a2] at hb1
            cases hb1
          · exact ⟨p, by omega, a2, a3⟩
      | true =>
        refine br_f (by decide) (s_include rws2 rws160 (b := 0) (by decide) (by omega) (fun nx'' hi2 => ?_))
        try simp (disch := omega) only [k_0, k_1, k_2, k_3, k_4, k_6, k_7, k_10, k_11, k_12, k_13, k_14, k_16, k_32, k_36, k_40, k_41, k_42, k_43, k_49, k_64, k_80, k_96, k_97, k_100, k_109, k_110, k_127, k_128, k_146, k_147, k_160, k_2304, k_4608, k_13824, nI_add, pk_mul, pk_sub, nI_clamp, q_in, nI_ltI, nI_leI, nI_eq, forall_eq, e_shl, e_bit, e_b0, e_b1, e_bn, e_andn, fa_or, fa_and, e_m1, e_nneg]
        refine hag _ (fun q hq => ?_)
        rw [hi2.1 q hq, Bool.or_eq_true, hn q hq]
        show _ ∨ RQ fol i q = true ↔ _
        rw [h2 i (by omega) q hq]
        constructor
        · rintro (⟨p, a1, a2⟩ | a)
          · exact ⟨p, by omega, a2⟩
          · exact ⟨i, by omega, (h3 i hi).mp hb1, a⟩
        · rintro ⟨p, a1, a2, a3⟩
          by_cases e : p = i
          · subst e; exact Or.inr a3
          · exact Or.inl ⟨p, by omega, a2, a3⟩
    · intro again nx' hn
      unfold wp_X2_findNext_L28
      try simp (disch := omega) only [k_0, k_1, k_2, k_3, k_4, k_6, k_7, k_10, k_11, k_12, k_13, k_14, k_16, k_32, k_36, k_40, k_41, k_42, k_43, k_49, k_64, k_80, k_96, k_97, k_100, k_109, k_110, k_127, k_128, k_146, k_147, k_160, k_2304, k_4608, k_13824, nI_add, pk_mul, pk_sub, nI_clamp, q_in, nI_ltI, nI_leI, nI_eq, forall_eq, e_shl, e_bit, e_b0, e_b1, e_bn, e_andn, fa_or, fa_and, e_m1, e_nneg]
      repeat (first | refine And.intro (fun hh => absurd hh (by omega)) (fun _ => ?_) | refine And.intro (fun _ => ?_) (fun hh => absurd hh (by omega)) | refine And.intro (by omega) ?_)
      refine hK _ (fun q hq => ?_)
      rw [hn q hq]
      unfold NXq
      rw [if_neg b0]
    · rw [zr q hq]
      constructor
      · intro w; cases w
      · rintro ⟨p, a, -⟩
        exact absurd a (Nat.not_lt_zero _)
theorem s_fits {fr : Nat → Nat} {k tp : Nat} {u : List Nat} {ns : List ND} (irr : ∀ a, ind fr a a = false) (sym : ∀ a b, ind fr a b = ind fr b a) (hu : ∀ x ∈ u, x < k) (h16 : u.length ≤ 16) (hk : k ≤ 6) (hsg : sgOK k ns) (hst : stk ns ns.length = some [tp]) (hlen : ns.length ≤ 159) (h160 : ∀ j, j ≤ ns.length → SN ns j ≤ 160) {kd lf rt le : Nat → Int32} (hN : NDR kd lf rt ns) (hle : ∀ j, j < ns.length → le j = nI (LT ns ns.length j)) {lA yA bA pA t wg : Nat → Int32} {pt : Int32} (hP : PL fr u u.length lA yA bA pA) (hT : TA u t (fun b => decide (b = 0))) (hG : WG u wg) {sp0 : Int32} {f0 l0 fo0 so0 en0 nx0 : Nat → Int64} {K : Int32 → Int32 → (Nat → Int64) → (Nat → Int64) → (Nat → Int64) → (Nat → Int64) → (Nat → Int64) → (Nat → Int64) → Int32 → (Nat → Int32) → Prop} (hK : ∀ o1 o2 o3 o4 o5 o6 o7 o8 o9, K (bI (cl (FINx fr u k ns tp))) o1 o2 o3 o4 o5 o6 o7 o8 o9) : wp_X2_fits sp0 f0 l0 fo0 so0 en0 nx0 (nI ns.length) (nI tp) kd lf rt le (nI k) (nI (wt u 6)) pt bA pA t wg K := by
  have hu6 : ∀ x ∈ u, x < 6 := fun x hx => Nat.lt_of_lt_of_le (hu x hx) hk
  have hWt := wt_le hu6 h16
  have hWp := wt_pos u 6
  have htp : tp < ns.length := stk_lt hst _ List.mem_cons_self
  unfold wp_X2_fits
  refine s_isNode (by omega) htp (br_f' (by decide) ?_)
  rw [k_1, pk_sub (by omega)]
  intro z hz
  subst hz
  have lt160 : LT ns ns.length tp ≤ 160 := by
    have := LT_sum hst
    have w : LT ns ns.length tp + 0 ≤ ns.length := this
    omega
  by_cases n1 : wt u 6 = 1
  · refine br_f (by rw [k_0, nI_ltI (by omega) (by omega)]; omega) ?_
    unfold wp_X8_leastLength
    refine s_leastOf (by omega) htp (hle tp htp) ?_
    have e9 : FINx fr u k ns tp ↔ LT ns ns.length tp = 0 := by
      unfold FINx FIN
      rw [n1]
      constructor
      · rintro (w | ⟨q, -, w, -⟩)
        · exact w.2
        · exact absurd w (AB_0 _)
      · exact fun w => Or.inl ⟨rfl, w⟩
    rw [cl_congr e9] at hK
    by_cases w : LT ns ns.length tp = 0
    · rw [cl_t w] at hK
      exact br_t' (by rw [w]; rfl) (hK _ _ _ _ _ _ _ _ _)
    · rw [cl_ff w] at hK
      exact br_f' (by rw [k_0, q_inj (by omega) (by omega)]; exact w) (hK _ _ _ _ _ _ _ _ _)
  · refine br_t (by rw [k_0, nI_ltI (by omega) (by omega)]; omega) ?_
    refine s_findSpots hk hsg hst hlen h160 hN hle (fun fi la fol so m1 m2 m3 m4 => ?_)
    have hga := GI_all hk hsg hst (Nat.le_refl _) (Nat.le_refl _) hst
    have hFM : FM ns ns.length tp < 2 ^ SP ns ns.length := (hga.2.2.2.2.2.1 (tpl ns ns.length tp) List.mem_cons_self).2.2.2.2.2.2.1
    have sp80 : SP ns ns.length ≤ 80 := by
      have a := SP_SN ns ns.length
      have b := h160 ns.length (Nat.le_refl _)
      omega
    have f1 := m1 tp htp
    have f2 := m2 tp htp
    have hlq := LQ_lt hk hsg hst (Nat.le_refl _) ns.length (Nat.le_refl _)
    unfold FINx FIN at hK
    clear m1 m2 hga hle hN h160 hsg
    generalize SP ns ns.length = sp at *
    generalize LQ ns ns.length = lq at *
    generalize FO ns ns.length = fo at *
    generalize FM ns ns.length tp = F at *
    generalize LM ns ns.length tp = lm at *
    refine for_X2_fits_L45 _ _ (2 * wt u 6) (fun i en => ∀ j, j < i → en j = 0) ?_ ?_ (0) _ _ rfl (Nat.zero_le _) (fun j hj => absurd hj (Nat.not_lt_zero _))
    · intro again i en hi h0 hag
      unfold wp_X2_fits_L45
      try simp (disch := omega) only [k_0, k_1, k_2, k_3, k_4, k_6, k_7, k_10, k_11, k_12, k_13, k_14, k_16, k_32, k_36, k_40, k_41, k_42, k_43, k_49, k_64, k_80, k_96, k_97, k_100, k_109, k_110, k_127, k_128, k_146, k_147, k_160, k_2304, k_4608, k_13824, nI_add, pk_mul, pk_sub, nI_clamp, q_in, nI_ltI, nI_leI, nI_eq, forall_eq, e_shl, e_bit, e_b0, e_b1, e_bn, e_andn, fa_or, fa_and, e_m1, e_nneg]
      repeat (first | refine And.intro (fun hh => absurd hh (by omega)) (fun _ => ?_) | refine And.intro (fun _ => ?_) (fun hh => absurd hh (by omega)) | refine And.intro (by omega) ?_)
      exact hag _ (fun j hj => by
        by_cases e : j = i
        · subst e; exact pk_uLs
        · rw [pk_uLn e]; exact h0 j (by omega))
    intro again en h0
    unfold wp_X2_fits_L45
    try simp (disch := omega) only [k_0, k_1, k_2, k_3, k_4, k_6, k_7, k_10, k_11, k_12, k_13, k_14, k_16, k_32, k_36, k_40, k_41, k_42, k_43, k_49, k_64, k_80, k_96, k_97, k_100, k_109, k_110, k_127, k_128, k_146, k_147, k_160, k_2304, k_4608, k_13824, nI_add, pk_mul, pk_sub, nI_clamp, q_in, nI_ltI, nI_leI, nI_eq, forall_eq, e_shl, e_bit, e_b0, e_b1, e_bn, e_andn, fa_or, fa_and, e_m1, e_nneg]
    repeat (first | refine And.intro (fun hh => absurd hh (by omega)) (fun _ => ?_) | refine And.intro (fun _ => ?_) (fun hh => absurd hh (by omega)) | refine And.intro (by omega) ?_)
    have z0 : ∀ b q, b < wt u 6 → q < 128 → RQ en b q = false := fun b q hb hq => by
      unfold RQ
      rw [h0 _ (by omega), bt_0]
    refine for_X2_fits_L83 _ _ _ _ _ _ _ _ _ _ _ _ (wt u 6 - 1) (fun b en nx pt t => (∀ b' q, b' < wt u 6 → q < 128 → (RQ en b' q = true ↔ AB fr u k sp lq F fo b b' q)) ∧ ∃ R : Nat → Bool, TA u t R ∧ R 0 = true ∧ ∀ b' q, b' < wt u 6 → AB fr u k sp lq F fo b b' q → R b' = true) ?_ ?_ (0) _ _ _ _ _ rfl (Nat.zero_le _) (⟨fun b' q hb hq => ?_, fun b => decide (b = 0), hT, rfl, fun b' q _ h => h.elim⟩)
    · rintro again2 b en1 nx1 pt1 t1 hb ⟨h1, R, r1, r2, r3⟩ hag
      unfold wp_X2_fits_L83
      try simp (disch := omega) only [k_0, k_1, k_2, k_3, k_4, k_6, k_7, k_10, k_11, k_12, k_13, k_14, k_16, k_32, k_36, k_40, k_41, k_42, k_43, k_49, k_64, k_80, k_96, k_97, k_100, k_109, k_110, k_127, k_128, k_146, k_147, k_160, k_2304, k_4608, k_13824, nI_add, pk_mul, pk_sub, nI_clamp, q_in, nI_ltI, nI_leI, nI_eq, forall_eq, e_shl, e_bit, e_b0, e_b1, e_bn, e_andn, fa_or, fa_and, e_m1, e_nneg]
      repeat (first | refine And.intro (fun hh => absurd hh (by omega)) (fun _ => ?_) | refine And.intro (fun _ => ?_) (fun hh => absurd hh (by omega)) | refine And.intro (by omega) ?_)
      refine s_findNext (A := AB fr u k sp lq F fo b) sp80 hFM (by omega) (by omega) f1 m3 (fun p hp => h1 b p (by omega) (by omega)) (fun nx2 hnx => ?_)
      refine for_X2_fits_L110 _ _ _ _ _ _ _ _ _ (k) (fun x en pt t => (∀ b' q, b' < wt u 6 → q < 128 → (RQ en b' q = true ↔ AX fr u sp lq (NXq (AB fr u k sp lq F fo b) sp F fo b) (AB fr u k sp lq F fo b) b x b' q)) ∧ ∃ R : Nat → Bool, TA u t R ∧ R 0 = true ∧ ∀ b' q, b' < wt u 6 → AX fr u sp lq (NXq (AB fr u k sp lq F fo b) sp F fo b) (AB fr u k sp lq F fo b) b x b' q → R b' = true) ?_ ?_ (0) _ _ _ _ rfl (Nat.zero_le _) (⟨h1, R, r1, r2, r3⟩)
      · rintro again3 x en2 pt2 t2 hx ⟨k1, R2, q1, q2, q3⟩ hag3
        unfold wp_X2_fits_L110
        try simp (disch := omega) only [k_0, k_1, k_2, k_3, k_4, k_6, k_7, k_10, k_11, k_12, k_13, k_14, k_16, k_32, k_36, k_40, k_41, k_42, k_43, k_49, k_64, k_80, k_96, k_97, k_100, k_109, k_110, k_127, k_128, k_146, k_147, k_160, k_2304, k_4608, k_13824, nI_add, pk_mul, pk_sub, nI_clamp, q_in, nI_ltI, nI_leI, nI_eq, forall_eq, e_shl, e_bit, e_b0, e_b1, e_bn, e_andn, fa_or, fa_and, e_m1, e_nneg]
        repeat (first | refine And.intro (fun hh => absurd hh (by omega)) (fun _ => ?_) | refine And.intro (fun _ => ?_) (fun hh => absurd hh (by omega)) | refine And.intro (by omega) ?_)
        unfold wp_X2_readLetter
        have same : ∀ p, (∀ q, q < sp → lq q = x → cc fr u b x = true → ¬ NXq (AB fr u k sp lq F fo b) sp F fo b q) → again3 (nI (x + 1)) en2 p t2 := by
          intro p no
          have e : ∀ b' q, AX fr u sp lq (NXq (AB fr u k sp lq F fo b) sp F fo b) (AB fr u k sp lq F fo b) b (x + 1) b' q ↔ AX fr u sp lq (NXq (AB fr u k sp lq F fo b) sp F fo b) (AB fr u k sp lq F fo b) b x b' q := fun b' q => by
            rw [AX_s]
            exact ⟨fun w => w.elim id (fun w => absurd w.2.2.2.2 (no q w.2.2.1 w.2.2.2.1 w.2.1)), Or.inl⟩
          exact hag3 _ _ _ ⟨fun b' q hb' hq => by rw [e]; exact k1 b' q hb' hq, R2, q1, q2, fun b' q hb' h => q3 b' q hb' ((e b' q).mp h)⟩
        refine s_shares rws2 rws12 (b := 0) (by decide) (by omega) ?_
        by_cases sh : ∃ q, q < 128 ∧ RQ nx2 0 q = true ∧ RQ so x q = true
        · rw [cl_t sh]
          refine br_f' (by decide) ?_
          obtain ⟨q0, s1, s2, s3⟩ := sh
          have hNx := (hnx q0 s1).mp s2
          have Rb : R2 b = true := by
            by_cases b0 : b = 0
            · rw [b0]; exact q2
            · unfold NXq at hNx
              rw [if_neg b0] at hNx
              obtain ⟨p, -, hp, -⟩ := hNx
              exact q3 b p (by omega) ((AX_low (Nat.le_refl b) x).mpr hp)
          refine s_grow irr sym hu hP q1 hG hWt (by omega) (by omega) h16 (fun _ hcc p t3 hT3 => ?_) (fun hno p => ?_)
          · have blt := cc_lt irr sym hu (show b < wt u 6 by omega) (show x < 6 by omega) hcc
            try simp (disch := omega) only [k_0, k_1, k_2, k_3, k_4, k_6, k_7, k_10, k_11, k_12, k_13, k_14, k_16, k_32, k_36, k_40, k_41, k_42, k_43, k_49, k_64, k_80, k_96, k_97, k_100, k_109, k_110, k_127, k_128, k_146, k_147, k_160, k_2304, k_4608, k_13824, nI_add, pk_mul, pk_sub, nI_clamp, q_in, nI_ltI, nI_leI, nI_eq, forall_eq, e_shl, e_bit, e_b0, e_b1, e_bn, e_andn, fa_or, fa_and, e_m1, e_nneg]
            repeat (first | refine And.intro (fun hh => absurd hh (by omega)) (fun _ => ?_) | refine And.intro (fun _ => ?_) (fun hh => absurd hh (by omega)) | refine And.intro (by omega) ?_)
            refine for_X2_readLetter_L52 _ _ _ _ _ (2) (fun i en' => ∀ j, en' j = if 2 * (b + wt u x) ≤ j ∧ j < 2 * (b + wt u x) + i then en2 j ||| (nx2 (j - 2 * (b + wt u x)) &&& so (2 * x + (j - 2 * (b + wt u x)))) else en2 j) ?_ ?_ (0) _ _ rfl (Nat.zero_le _) (fun j => by rw [if_neg (by omega)])
            · intro again4 i en3 hi hen hag4
              unfold wp_X2_readLetter_L52
              try simp (disch := omega) only [k_0, k_1, k_2, k_3, k_4, k_6, k_7, k_10, k_11, k_12, k_13, k_14, k_16, k_32, k_36, k_40, k_41, k_42, k_43, k_49, k_64, k_80, k_96, k_97, k_100, k_109, k_110, k_127, k_128, k_146, k_147, k_160, k_2304, k_4608, k_13824, nI_add, pk_mul, pk_sub, nI_clamp, q_in, nI_ltI, nI_leI, nI_eq, forall_eq, e_shl, e_bit, e_b0, e_b1, e_bn, e_andn, fa_or, fa_and, e_m1, e_nneg]
              repeat (first | refine And.intro (fun hh => absurd hh (by omega)) (fun _ => ?_) | refine And.intro (fun _ => ?_) (fun hh => absurd hh (by omega)) | refine And.intro (by omega) ?_)
              refine hag4 _ (fun j => ?_)
              by_cases e : j = 2 * (b + wt u x) + i
              · subst e
                rw [pk_uLs, hen, if_neg (by omega), if_pos (by omega), show 2 * (b + wt u x) + i - 2 * (b + wt u x) = i by omega]
              · rw [pk_uLn e, hen]
                by_cases q : 2 * (b + wt u x) ≤ j ∧ j < 2 * (b + wt u x) + i
                · rw [if_pos q, if_pos (by omega)]
                · rw [if_neg q, if_neg (by omega)]
            · intro again4 en3 hen
              unfold wp_X2_readLetter_L52
              try simp (disch := omega) only [k_0, k_1, k_2, k_3, k_4, k_6, k_7, k_10, k_11, k_12, k_13, k_14, k_16, k_32, k_36, k_40, k_41, k_42, k_43, k_49, k_64, k_80, k_96, k_97, k_100, k_109, k_110, k_127, k_128, k_146, k_147, k_160, k_2304, k_4608, k_13824, nI_add, pk_mul, pk_sub, nI_clamp, q_in, nI_ltI, nI_leI, nI_eq, forall_eq, e_shl, e_bit, e_b0, e_b1, e_bn, e_andn, fa_or, fa_and, e_m1, e_nneg]
              repeat (first | refine And.intro (fun hh => absurd hh (by omega)) (fun _ => ?_) | refine And.intro (fun _ => ?_) (fun hh => absurd hh (by omega)) | refine And.intro (by omega) ?_)
              have row : ∀ q, q < 128 → RQ en3 (b + wt u x) q = (RQ en2 (b + wt u x) q || (RQ nx2 0 q && RQ so x q)) := fun q hq => by
                unfold RQ
                rw [hen, if_pos ⟨by omega, by omega⟩, bt_or, bt_and, show 2 * (b + wt u x) + q / 64 - 2 * (b + wt u x) = q / 64 by omega, show 2 * 0 + q / 64 = q / 64 by omega]
              have oth : ∀ b' q, b' ≠ b + wt u x → q < 128 → RQ en3 b' q = RQ en2 b' q := fun b' q hne hq => by
                unfold RQ
                rw [hen, if_neg (by omega)]
              refine hag3 _ _ _ ⟨fun b' q hb' hq => ?_, fun j => R2 j || decide (j = b + wt u x), hT3, by show (R2 0 || decide (0 = b + wt u x)) = true; rw [q2]; rfl, fun b' q hb' h => ?_⟩
              · rw [AX_s]
                by_cases e : b' = b + wt u x
                · subst e
                  rw [row q hq, Bool.or_eq_true, Bool.and_eq_true, k1 _ q hb' hq, hnx q hq, m4 x (by omega) q hq]
                  constructor
                  · rintro (w | ⟨w1, w2, w3⟩)
                    · exact Or.inl w
                    · exact Or.inr ⟨rfl, hcc, w2, w3, w1⟩
                  · rintro (w | ⟨-, -, w2, w3, w1⟩)
                    · exact Or.inl w
                    · exact Or.inr ⟨w1, w2, w3⟩
                · rw [oth b' q e hq, k1 b' q hb' hq]
                  exact ⟨Or.inl, fun w => w.elim id (fun w => absurd w.1 e)⟩
              · show (R2 b' || decide (b' = b + wt u x)) = true
                rcases AX_s.mp h with h | h
                · rw [q3 b' q hb' h]; rfl
                · rw [decide_eq_true h.1, Bool.or_true]
          · have nc : ¬ cc fr u b x = true := fun w => hno ⟨Rb, w⟩
            refine br_t (by decide) ?_
            exact same _ (fun q _ _ w => absurd w nc)
        · rw [cl_ff sh]
          refine br_t' (by decide) ?_
          refine same _ (fun q hq hl _ hNq => sh ⟨q, by omega, (hnx q (by omega)).mpr hNq, (m4 x (by omega) q (by omega)).mpr ⟨hq, hl⟩⟩)
      · rintro again3 en2 pt2 t2 ⟨k1, R2, q1, q2, q3⟩
        unfold wp_X2_fits_L110
        try simp (disch := omega) only [k_0, k_1, k_2, k_3, k_4, k_6, k_7, k_10, k_11, k_12, k_13, k_14, k_16, k_32, k_36, k_40, k_41, k_42, k_43, k_49, k_64, k_80, k_96, k_97, k_100, k_109, k_110, k_127, k_128, k_146, k_147, k_160, k_2304, k_4608, k_13824, nI_add, pk_mul, pk_sub, nI_clamp, q_in, nI_ltI, nI_leI, nI_eq, forall_eq, e_shl, e_bit, e_b0, e_b1, e_bn, e_andn, fa_or, fa_and, e_m1, e_nneg]
        repeat (first | refine And.intro (fun hh => absurd hh (by omega)) (fun _ => ?_) | refine And.intro (fun _ => ?_) (fun hh => absurd hh (by omega)) | refine And.intro (by omega) ?_)
        exact hag _ _ _ _ ⟨k1, R2, q1, q2, q3⟩
    · rintro again2 en1 nx1 pt1 t1 ⟨h1, R, r1, r2, r3⟩
      unfold wp_X2_fits_L83
      try simp (disch := omega) only [k_0, k_1, k_2, k_3, k_4, k_6, k_7, k_10, k_11, k_12, k_13, k_14, k_16, k_32, k_36, k_40, k_41, k_42, k_43, k_49, k_64, k_80, k_96, k_97, k_100, k_109, k_110, k_127, k_128, k_146, k_147, k_160, k_2304, k_4608, k_13824, nI_add, pk_mul, pk_sub, nI_clamp, q_in, nI_ltI, nI_leI, nI_eq, forall_eq, e_shl, e_bit, e_b0, e_b1, e_bn, e_andn, fa_or, fa_and, e_m1, e_nneg]
      repeat (first | refine And.intro (fun hh => absurd hh (by omega)) (fun _ => ?_) | refine And.intro (fun _ => ?_) (fun hh => absurd hh (by omega)) | refine And.intro (by omega) ?_)
      refine s_shares rws4608 rws320 (by omega) (by omega) ?_
      have e9 : (∃ q, q < 128 ∧ RQ en1 (wt u 6 - 1) q = true ∧ RQ la tp q = true) ↔ ((wt u 6 = 1 ∧ LT ns ns.length tp = 0) ∨ ∃ q, q < sp ∧ AB fr u k sp lq F fo (wt u 6) (wt u 6 - 1) q ∧ lm.testBit q = true) := by
        have e8 : ∀ q, AB fr u k sp lq F fo (wt u 6) (wt u 6 - 1) q ↔ AB fr u k sp lq F fo (wt u 6 - 1) (wt u 6 - 1) q := fun q => by
          obtain ⟨m, hm⟩ : ∃ m, wt u 6 = m + 1 := ⟨wt u 6 - 1, by omega⟩
          rw [hm, Nat.add_sub_cancel]
          exact AX_low (Nat.le_refl m) k
        constructor
        · rintro ⟨q, w1, w2, w3⟩
          have w4 := (h1 _ q (by omega) w1).mp w2
          exact Or.inr ⟨q, AB_sp w4, (e8 q).mpr w4, by rw [← f2 q w1]; exact w3⟩
        · rintro (w | ⟨q, w1, w2, w3⟩)
          · exact absurd w.1 n1
          · exact ⟨q, by omega, (h1 _ q (by omega) (by omega)).mpr ((e8 q).mp w2), by rw [f2 q (by omega)]; exact w3⟩
      rw [cl_congr e9]
      refine ⟨?_, hK _ _ _ _ _ _ _ _ _⟩
      cases cl ((wt u 6 = 1 ∧ LT ns ns.length tp = 0) ∨ ∃ q, q < sp ∧ AB fr u k sp lq F fo (wt u 6) (wt u 6 - 1) q ∧ lm.testBit q = true) with
      | false => exact Or.inl (by decide)
      | true => exact Or.inr (by decide)
    · rw [z0 b' q hb hq]
      exact ⟨fun w => by (cases w), fun w => w.elim⟩
