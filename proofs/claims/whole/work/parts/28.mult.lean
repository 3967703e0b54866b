/-! least common multiples -/
theorem s_areAllFree {free : Nat → Int32} {fr : Nat → Nat} {k : Nat} (hf : FA free fr) (hk : k ≤ 6) {S1 S2 : Nat} (h2 : S2 < 2 ^ k) {K : Int32 → Prop} (hy : (∀ x y, x < k → S1.testBit x = true → S2.testBit y = true → ind fr x y = true) → K 1) (hn : ¬ (∀ x y, x < k → S1.testBit x = true → S2.testBit y = true → ind fr x y = true) → K 0) : wp_X0_areAllFree (nI k) free (nI S1) (nI S2) K := by
  unfold wp_X0_areAllFree
  refine for_X0_areAllFree_L2 _ _ _ _ _ _ (k) (fun i => ∀ x y, x < i → S1.testBit x = true → S2.testBit y = true → ind fr x y = true) ?_ ?_ (0) _ rfl (Nat.zero_le _) (fun x y hx => absurd hx (Nat.not_lt_zero _))
  · intro again i hi hJ hag
    unfold wp_X0_areAllFree_L2
    try simp (disch := omega) only [k_0, k_1, k_2, k_3, k_4, k_6, k_7, k_10, k_11, k_12, k_13, k_14, k_16, k_32, k_36, k_40, k_41, k_42, k_43, k_49, k_64, k_80, k_96, k_97, k_100, k_109, k_110, k_127, k_128, k_146, k_147, k_160, k_2304, k_4608, k_13824, nI_add, pk_mul, pk_sub, nI_clamp, q_in, nI_ltI, nI_leI, nI_eq, forall_eq, e_shl, e_bit, e_b0, e_b1, e_bn, e_andn, fa_or, fa_and, e_m1, e_nneg]
    repeat (first | refine And.intro (fun hh => absurd hh (by omega)) (fun _ => ?_) | refine And.intro (fun _ => ?_) (fun hh => absurd hh (by omega)) | refine And.intro (by omega) ?_)
    refine ⟨fun hb => hag (fun x y hx h3 h4 => ?_), fun hb => s_freeOf hf (by omega) ?_⟩
    · by_cases e : x = i
      · subst e; rw [hb] at h3; cases h3
      · exact hJ x y (by omega) h3 h4
    · rw [e_andn]
      have hlt : andn S2 (fr i) < 2 ^ 32 := Nat.lt_of_lt_of_le (andn_lt h2) (Nat.pow_le_pow_right (by decide) (by omega))
      rw [q_inj hlt (by decide), andn_zero]
      refine ⟨fun hz => ?_, fun hz => hn (fun hall => hz (fun j hj => hall i j hi hb hj))⟩
      refine hag (fun x y hx h3 h4 => ?_)
      by_cases e : x = i
      · subst e; exact hz y h4
      · exact hJ x y (by omega) h3 h4
  · intro again hJ
    unfold wp_X0_areAllFree_L2
    try simp (disch := omega) only [k_0, k_1, k_2, k_3, k_4, k_6, k_7, k_10, k_11, k_12, k_13, k_14, k_16, k_32, k_36, k_40, k_41, k_42, k_43, k_49, k_64, k_80, k_96, k_97, k_100, k_109, k_110, k_127, k_128, k_146, k_147, k_160, k_2304, k_4608, k_13824, nI_add, pk_mul, pk_sub, nI_clamp, q_in, nI_ltI, nI_leI, nI_eq, forall_eq, e_shl, e_bit, e_b0, e_b1, e_bn, e_andn, fa_or, fa_and, e_m1, e_nneg]
    repeat (first | refine And.intro (fun hh => absurd hh (by omega)) (fun _ => ?_) | refine And.intro (fun _ => ?_) (fun hh => absurd hh (by omega)) | refine And.intro (by omega) ?_)
    exact hy hJ
theorem M_commonMultiple {A_now_alphabet_count : Int32} {A_now_alphabet_free : Nat → Int32} {A_now_words_size : Nat → Int32} {A_now_words_letters : Nat → Nat → Int32} {A_now_recogniser_states : Int32} {A_now_recogniser_accepting : Int32} {A_now_recogniser_arrows : Nat → Int32} {A_draft_size : Int32} {A_draft_letters : Nat → Int32} {A_places_letters : Int32} {A_places_size : Int32} {A_places_taken : Int32} {A_places_letterAt : Nat → Int32} {A_places_layerAt : Nat → Int32} {A_places_before : Nat → Int32} {A_places_placesOf : Nat → Int32} {A_otherPlaces_letters : Int32} {A_otherPlaces_size : Int32} {A_otherPlaces_taken : Int32} {A_otherPlaces_letterAt : Nat → Int32} {A_otherPlaces_layerAt : Nat → Int32} {A_otherPlaces_before : Nat → Int32} {A_otherPlaces_placesOf : Nat → Int32} {B_v : Nat → Int32} {B_oneLength : Int32} {B_otherLength : Int32} {B_madeLength : Int32} {B_commonLength : Int32} {B_one : Nat → Int32} {B_other : Nat → Int32} {B_made : Nat → Int32} {B_isGone : Nat → Int32} {B_common : Nat → Int32} {B_isGoneToo : Nat → Int32} (x1 x2 x3 : Int32) (hR : REL A_now_alphabet_count A_now_alphabet_free A_now_words_size A_now_words_letters A_now_recogniser_states A_now_recogniser_accepting A_now_recogniser_arrows B_v) {K : Int32 → (Nat → Int32) → (Nat → Nat → Int32) → Int32 → (Nat → Int32) → Int32 → Int32 → Int32 → (Nat → Int32) → (Nat → Int32) → (Nat → Int32) → (Nat → Int32) → Int32 → Int32 → Int32 → (Nat → Int32) → (Nat → Int32) → (Nat → Int32) → (Nat → Int32) → Prop} (hK : ∀ (r : Int32) A_now_words_size' A_now_words_letters' A_draft_size' A_draft_letters' A_places_letters' A_places_size' A_places_taken' A_places_letterAt' A_places_layerAt' A_places_before' A_places_placesOf' A_otherPlaces_letters' A_otherPlaces_size' A_otherPlaces_taken' A_otherPlaces_letterAt' A_otherPlaces_layerAt' A_otherPlaces_before' A_otherPlaces_placesOf', (∀ Q : Int32 → Int32 → Int32 → Int32 → Int32 → (Nat → Int32) → (Nat → Int32) → (Nat → Int32) → (Nat → Int32) → (Nat → Int32) → (Nat → Int32) → (Nat → Int32) → Prop, (∀ B_oneLength' B_otherLength' B_madeLength' B_commonLength' B_v' B_one' B_other' B_made' B_isGone' B_common' B_isGoneToo', REL A_now_alphabet_count A_now_alphabet_free A_now_words_size' A_now_words_letters' A_now_recogniser_states A_now_recogniser_accepting A_now_recogniser_arrows B_v' → Q r B_oneLength' B_otherLength' B_madeLength' B_commonLength' B_v' B_one' B_other' B_made' B_isGone' B_common' B_isGoneToo') → wp_X11_commonMultiple B_oneLength B_otherLength B_madeLength B_commonLength B_v B_one B_other B_made B_isGone B_common B_isGoneToo x1 x2 x3 Q) → K r A_now_words_size' A_now_words_letters' A_draft_size' A_draft_letters' A_places_letters' A_places_size' A_places_taken' A_places_letterAt' A_places_layerAt' A_places_before' A_places_placesOf' A_otherPlaces_letters' A_otherPlaces_size' A_otherPlaces_taken' A_otherPlaces_letterAt' A_otherPlaces_layerAt' A_otherPlaces_before' A_otherPlaces_placesOf') : wp_X10_commonMultiple A_now_alphabet_count A_now_alphabet_free A_now_words_size A_now_words_letters A_draft_size A_draft_letters A_places_letters A_places_size A_places_taken A_places_letterAt A_places_layerAt A_places_before A_places_placesOf A_otherPlaces_letters A_otherPlaces_size A_otherPlaces_taken A_otherPlaces_letterAt A_otherPlaces_layerAt A_otherPlaces_before A_otherPlaces_placesOf x1 x2 x3 K := by
  have hR0 := hR
  obtain ⟨k, fr, W, n, ar, ac, hS, hA, hB⟩ := hR
  have hS0 := hS
  have hA0 := hA
  have hB0 := hB
  obtain ⟨hFR, hWS, hn1, hn6, har, hacl⟩ := hS
  obtain ⟨rfl, hF, hW, rfl, rfl, hAr⟩ := hA
  obtain ⟨hk0, hV, hWV, hn0, hac0, hArV, hAr6⟩ := hB
  have hk6 := hFR.2.1
  have hk2 := hFR.1
  have irr := hFR.irr
  have sym := hFR.sym
  unfold wp_X10_commonMultiple
  rcases in_cases x1 (n := 6) (by omega) with ⟨w, hw, rfl⟩ | hx
  · rcases in_cases x2 (n := 6) (by omega) with ⟨o, ho, rfl⟩ | hx
    · rcases in_cases x3 (n := 6) (by omega) with ⟨t, ht, rfl⟩ | hx
      · have ws1 := (hW w hw).1
        have wr1 := hW w hw
        rw [ws1] at wr1
        have wv1 := hWV w hw
        obtain ⟨l161, lk1⟩ := hWS w hw
        have lk61 : ∀ x ∈ W w, x < 6 := fun x h => Nat.lt_of_lt_of_le (lk1 x h) hk6
        have ws2 := (hW o ho).1
        have wr2 := hW o ho
        rw [ws2] at wr2
        have wv2 := hWV o ho
        obtain ⟨l162, lk2⟩ := hWS o ho
        have lk62 : ∀ x ∈ W o, x < 6 := fun x h => Nat.lt_of_lt_of_le (lk2 x h) hk6
        refine s_word hw ?_
        (first | refine br_t (by decide) ?_ | refine br_f (by decide) ?_ | refine br_t' (by decide) ?_ | refine br_f' (by decide) ?_)
        refine s_word ho ?_
        (first | refine br_t (by decide) ?_ | refine br_f (by decide) ?_ | refine br_t' (by decide) ?_ | refine br_f' (by decide) ?_)
        refine s_word ht ?_
        (first | refine br_t (by decide) ?_ | refine br_f (by decide) ?_ | refine br_t' (by decide) ?_ | refine br_f' (by decide) ?_)
        refine s_draftCommon irr sym hw ho hF hk6 (hW w hw) (hW o ho) lk1 lk2 l161 l162 (fun d r1 r2 T1 T2 l a1 b1 c1 d1 a2 b2 c2 d2 hC hl hT1 hT2 hP hP2 => ?_)
        have len1 := hC.1.len irr sym
        have len2 := hC.2.1.len irr sym
        simp at len1 len2
        have dk : ∀ x ∈ d, x < k := fun x hx => lk1 x (hC.1.mem irr (List.mem_append_left _ hx))
        have r1k : ∀ x ∈ r1, x < k := fun x hx => lk1 x (hT1.mem hx)
        have r2k : ∀ x ∈ r2, x < k := fun x hx => lk2 x (hT2.mem hx)
        have nl1 := nf_len (fr := fr) r1k
        have nl2 := nf_len (fr := fr) r2k
        have ref : ∀ (res : Int32) (Q : Int32 → Int32 → Int32 → Int32 → Int32 → (Nat → Int32) → (Nat → Int32) → (Nat → Int32) → (Nat → Int32) → (Nat → Int32) → (Nat → Int32) → (Nat → Int32) → Prop), ((∀ x ∈ r1, ∀ y ∈ r2, ind fr x y = true) → ¬ d.length + r1.length + r2.length ≤ 16 → ∀ a b c e g h i j l m, Q (-4) a b c e B_v g h i j l m) → ((∀ x ∈ r1, ∀ y ∈ r2, ind fr x y = true) → d.length + r1.length + r2.length ≤ 16 → ∀ a b c e v' g h i j l m, WV v' t (nf fr k (d ++ r1 ++ r2)) → (∀ j, j ≠ 7 + t → (j < 13 + 16 * t ∨ 13 + 16 * t + 16 ≤ j) → v' j = B_v j) → Q (nI (nf fr k (d ++ r1 ++ r2)).length) a b c e v' g h i j l m) → (¬ (∀ x ∈ r1, ∀ y ∈ r2, ind fr x y = true) → ∀ a b c e g h i j l m, Q (-3) a b c e B_v g h i j l m) → wp_X11_commonMultiple B_oneLength B_otherLength B_madeLength B_commonLength B_v B_one B_other B_made B_isGone B_common B_isGoneToo (nI w) (nI o) (nI t) Q := by
          intro res Q hQ4 hQy hQ3
          unfold wp_X11_commonMultiple
          refine s_isWord hw ?_
          (first | refine br_t (by decide) ?_ | refine br_f (by decide) ?_ | refine br_t' (by decide) ?_ | refine br_f' (by decide) ?_)
          refine s_isWord ho ?_
          (first | refine br_t (by decide) ?_ | refine br_f (by decide) ?_ | refine br_t' (by decide) ?_ | refine br_f' (by decide) ?_)
          refine s_isWord ht ?_
          (first | refine br_t (by decide) ?_ | refine br_f (by decide) ?_ | refine br_t' (by decide) ?_ | refine br_f' (by decide) ?_)
          refine s_takesOne hw wv1 (fun one h1 => s_takesOther ho wv2 (fun oth h2 => s_findCommon irr sym hV hk0 hk6 lk1 lk2 h1 h2 l161 l162 (fun d' S1 S2 g1 cm g2 hC' hcm hg1 hg2 => ?_)))
          obtain ⟨e1, e2, e3⟩ := gcd_one irr sym _ _ _ _ _ _ _ _ hC.1 hC.2.1 hC.2.2 hC'.1 hC'.2.1 hC'.2.2
          have ll := e1.len irr sym
          have ll2 := e2.len irr sym
          have ll3 := e3.len irr sym
          have swap : (∀ x ∈ r1, ∀ y ∈ r2, ind fr x y = true) ↔ ∀ i j, i < (W w).length → j < (W o).length → S1 i = false → S2 j = false → ind fr ((W w).getD i 0) ((W o).getD j 0) = true := by
            constructor
            · intro h i j hi hj hS1 hS2
              exact h _ (e2.sy.mem irr ((mem_rem _ _ _).mpr ⟨i, hi, hS1, rfl⟩)) _ (e3.sy.mem irr ((mem_rem _ _ _).mpr ⟨j, hj, hS2, rfl⟩))
            · intro h x hx y hy
              obtain ⟨i, hi, hS1, rfl⟩ := (mem_rem _ _ _).mp (e2.mem irr hx)
              obtain ⟨j, hj, hS2, rfl⟩ := (mem_rem _ _ _).mp (e3.mem irr hy)
              exact h i j hi hj hS1 hS2
          refine for_X11_commonMultiple_L43 _ _ _ _ _ _ _ _ ((W w).length) (fun i x => ∃ b, x = bI b ∧ (b = true ↔ ∀ i' j, i' < i → j < (W o).length → S1 i' = false → S2 j = false → ind fr ((W w).getD i' 0) ((W o).getD j 0) = true)) ?_ ?_ (0) _ _ rfl (Nat.zero_le _) (⟨true, rfl, fun _ i' j hi' => absurd hi' (Nat.not_lt_zero _), fun _ => rfl⟩)
          · rintro again i x hi ⟨b, rfl, hb⟩ hag
            unfold wp_X11_commonMultiple_L43
            try simp (disch := omega) only [k_0, k_1, k_2, k_3, k_4, k_6, k_7, k_10, k_11, k_12, k_13, k_14, k_16, k_32, k_36, k_40, k_41, k_42, k_43, k_49, k_64, k_80, k_96, k_97, k_100, k_109, k_110, k_127, k_128, k_146, k_147, k_160, k_2304, k_4608, k_13824, nI_add, pk_mul, pk_sub, nI_clamp, q_in, nI_ltI, nI_leI, nI_eq, forall_eq, e_shl, e_bit, e_b0, e_b1, e_bn, e_andn, fa_or, fa_and, e_m1, e_nneg]
            repeat (first | refine And.intro (fun hh => absurd hh (by omega)) (fun _ => ?_) | refine And.intro (fun _ => ?_) (fun hh => absurd hh (by omega)) | refine And.intro (by omega) ?_)
            refine for_X11_commonMultiple_L55 _ _ _ _ _ _ _ _ ((W o).length) (fun j x => ∃ b', x = bI b' ∧ (b' = true ↔ b = true ∧ ∀ j', j' < j → S1 i = false → S2 j' = false → ind fr ((W w).getD i 0) ((W o).getD j' 0) = true)) ?_ ?_ (0) _ _ rfl (Nat.zero_le _) (⟨b, rfl, fun h => ⟨h, fun j hj => absurd hj (Nat.not_lt_zero _)⟩, fun h => h.1⟩)
            · rintro again2 j x hj ⟨b', rfl, hb'⟩ hag2
              have step : ∀ c : Bool, (c = true ↔ (S1 i = false → S2 j = false → ind fr ((W w).getD i 0) ((W o).getD j 0) = true)) → b' = true → again2 (bI c) (nI (j + 1)) := by
                intro c hc hbt
                have h9 := hb'.mp hbt
                refine hag2 _ ⟨c, rfl, fun hct => ⟨h9.1, fun j' hj' => ?_⟩, fun h => hc.mpr (h.2 j (by omega))⟩
                by_cases e : j' = j
                · subst e; exact hc.mp hct
                · exact h9.2 j' (by omega)
              unfold wp_X11_commonMultiple_L55
              try simp (disch := omega) only [k_0, k_1, k_2, k_3, k_4, k_6, k_7, k_10, k_11, k_12, k_13, k_14, k_16, k_32, k_36, k_40, k_41, k_42, k_43, k_49, k_64, k_80, k_96, k_97, k_100, k_109, k_110, k_127, k_128, k_146, k_147, k_160, k_2304, k_4608, k_13824, nI_add, pk_mul, pk_sub, nI_clamp, q_in, nI_ltI, nI_leI, nI_eq, forall_eq, e_shl, e_bit, e_b0, e_b1, e_bn, e_andn, fa_or, fa_and, e_m1, e_nneg]
              repeat (first | refine And.intro (fun hh => absurd hh (by omega)) (fun _ => ?_) | refine And.intro (fun _ => ?_) (fun hh => absurd hh (by omega)) | refine And.intro (by omega) ?_)
              cases hbb : b' with
              | false =>
                refine br_t (by decide) (hag2 _ ⟨false, rfl, fun q => by (cases q), fun h => ?_⟩)
                rw [hbb] at hb'
                exact hb'.mpr ⟨h.1, fun j' hj' => h.2 j' (by omega)⟩
              | true =>
                refine br_f (by decide) ⟨by omega, ?_⟩
                rw [hg1 i (by omega), hg2 j (by omega), h1 i hi, h2 j hj]
                cases hS1 : S1 i with
                | true => exact br_f' (by decide) (step true ⟨fun _ q => by (rw [hS1] at q; cases q), fun _ => rfl⟩ hbb)
                | false =>
                  refine br_t' (by decide) ⟨by omega, ?_⟩
                  cases hS2 : S2 j with
                  | true => exact br_f' (by decide) (step true ⟨fun _ _ q => by (rw [hS2] at q; cases q), fun _ => rfl⟩ hbb)
                  | false =>
                    have ui := lk61 _ (getD_mem hi)
                    have uj := lk62 _ (getD_mem hj)
                    refine br_t' (by decide) ⟨by omega, by omega, s_free hV ui (by omega) ?_⟩
                    cases hif : ind fr ((W w).getD i 0) ((W o).getD j 0) with
                    | true => exact br_f (by decide) (step true ⟨fun _ _ _ => hif, fun _ => rfl⟩ hbb)
                    | false => exact br_t (by decide) (step false ⟨fun q => by (cases q), fun q => by rw [← hif]; exact q hS1 hS2⟩ hbb)
            · rintro again2 x ⟨b', rfl, hb'⟩
              unfold wp_X11_commonMultiple_L55
              try simp (disch := omega) only [k_0, k_1, k_2, k_3, k_4, k_6, k_7, k_10, k_11, k_12, k_13, k_14, k_16, k_32, k_36, k_40, k_41, k_42, k_43, k_49, k_64, k_80, k_96, k_97, k_100, k_109, k_110, k_127, k_128, k_146, k_147, k_160, k_2304, k_4608, k_13824, nI_add, pk_mul, pk_sub, nI_clamp, q_in, nI_ltI, nI_leI, nI_eq, forall_eq, e_shl, e_bit, e_b0, e_b1, e_bn, e_andn, fa_or, fa_and, e_m1, e_nneg]
              repeat (first | refine And.intro (fun hh => absurd hh (by omega)) (fun _ => ?_) | refine And.intro (fun _ => ?_) (fun hh => absurd hh (by omega)) | refine And.intro (by omega) ?_)
              refine hag _ ⟨b', rfl, fun q i' j hi' hj hS1 hS2 => ?_, fun h => ?_⟩
              · by_cases e : i' = i
                · subst e; exact (hb'.mp q).2 j hj hS1 hS2
                · exact hb.mp (hb'.mp q).1 i' j (by omega) hj hS1 hS2
              · exact hb'.mpr ⟨hb.mpr (fun i' j hi' hj hS1 hS2 => h i' j (by omega) hj hS1 hS2), fun j hj hS1 hS2 => h i j (by omega) hj hS1 hS2⟩
          · rintro again x ⟨b, rfl, hb⟩
            unfold wp_X11_commonMultiple_L43
            try simp (disch := omega) only [k_0, k_1, k_2, k_3, k_4, k_6, k_7, k_10, k_11, k_12, k_13, k_14, k_16, k_32, k_36, k_40, k_41, k_42, k_43, k_49, k_64, k_80, k_96, k_97, k_100, k_109, k_110, k_127, k_128, k_146, k_147, k_160, k_2304, k_4608, k_13824, nI_add, pk_mul, pk_sub, nI_clamp, q_in, nI_ltI, nI_leI, nI_eq, forall_eq, e_shl, e_bit, e_b0, e_b1, e_bn, e_andn, fa_or, fa_and, e_m1, e_nneg]
            repeat (first | refine And.intro (fun hh => absurd hh (by omega)) (fun _ => ?_) | refine And.intro (fun _ => ?_) (fun hh => absurd hh (by omega)) | refine And.intro (by omega) ?_)
            rw [← swap] at hb
            cases hbb : b with
            | false =>
              refine br_t' (by decide) (hQ3 (fun h => ?_) _ _ _ _ _ _ _ _ _ _)
              rw [hb.mpr h] at hbb
              cases hbb
            | true =>
              refine br_f' (by decide) ?_
              refine ⟨fun hle => ?_, fun hle => hQ4 (hb.mp hbb) (by omega) _ _ _ _ _ _ _ _ _ _⟩
              refine for_X11_commonMultiple_L162 _ _ _ _ ((W o).length) (fun i s o1 => s = nI (W w ++ rem ((W o).take i) S2).length ∧ RW o1 (W w ++ rem ((W o).take i) S2)) ?_ ?_ (0) _ _ _ rfl (Nat.zero_le _) (⟨by simp [rem_nil], by simpa [rem_nil] using h1⟩)
              · rintro again i s o1 hi ⟨rfl, hR⟩ hag
                have tl : ((W o).take i).length = i := by simp; omega
                have rl := rem_len_le ((W o).take i) S2
                have e : rem ((W o).take (i + 1)) S2 = rem ((W o).take i) S2 ++ (if S2 i = true then [] else [(W o).getD i 0]) := by
                  rw [take_snoc hi, rem_snoc, tl]
                have al : (W w ++ rem ((W o).take i) S2).length = (W w).length + (rem ((W o).take i) S2).length := by simp
                unfold wp_X11_commonMultiple_L162
                try simp (disch := omega) only [k_0, k_1, k_2, k_3, k_4, k_6, k_7, k_10, k_11, k_12, k_13, k_14, k_16, k_32, k_36, k_40, k_41, k_42, k_43, k_49, k_64, k_80, k_96, k_97, k_100, k_109, k_110, k_127, k_128, k_146, k_147, k_160, k_2304, k_4608, k_13824, nI_add, pk_mul, pk_sub, nI_clamp, q_in, nI_ltI, nI_leI, nI_eq, forall_eq, e_shl, e_bit, e_b0, e_b1, e_bn, e_andn, fa_or, fa_and, e_m1, e_nneg]
                repeat (first | refine And.intro (fun hh => absurd hh (by omega)) (fun _ => ?_) | refine And.intro (fun _ => ?_) (fun hh => absurd hh (by omega)) | refine And.intro (by omega) ?_)
                rw [hg2 i (by omega), h2 i hi]
                cases hS2 : S2 i with
                | true =>
                  rw [hS2, if_pos rfl, List.append_nil] at e
                  refine br_f' (by decide) (hag _ _ ⟨by rw [e], by rw [e]; exact hR⟩)
                | false =>
                  rw [hS2, if_neg (by decide)] at e
                  refine br_t' (by decide) ⟨by omega, by omega, hag _ _ ⟨by rw [e, ← List.append_assoc]; exact congrArg nI (List.length_append (as := W w ++ rem ((W o).take i) S2) (bs := [(W o).getD i 0])).symm, ?_⟩⟩
                  rw [e, ← List.append_assoc]
                  exact hR.push _
              · rintro again s o1 ⟨rfl, hR⟩
                unfold wp_X11_commonMultiple_L162
                try simp (disch := omega) only [k_0, k_1, k_2, k_3, k_4, k_6, k_7, k_10, k_11, k_12, k_13, k_14, k_16, k_32, k_36, k_40, k_41, k_42, k_43, k_49, k_64, k_80, k_96, k_97, k_100, k_109, k_110, k_127, k_128, k_146, k_147, k_160, k_2304, k_4608, k_13824, nI_add, pk_mul, pk_sub, nI_clamp, q_in, nI_ltI, nI_leI, nI_eq, forall_eq, e_shl, e_bit, e_b0, e_b1, e_bn, e_andn, fa_or, fa_and, e_m1, e_nneg]
                repeat (first | refine And.intro (fun hh => absurd hh (by omega)) (fun _ => ?_) | refine And.intro (fun _ => ?_) (fun hh => absurd hh (by omega)) | refine And.intro (by omega) ?_)
                rw [List.take_length] at hR ⊢
                have ek : ∀ x ∈ W w ++ rem (W o) S2, x < k := fun x hx => by
                  rcases List.mem_append.mp hx with q | q
                  · exact lk1 x q
                  · obtain ⟨j, hj, -, e⟩ := (mem_rem _ _ _).mp q
                    rw [← e]
                    exact lk2 _ (getD_mem hj)
                have eqv : Eqv (ind fr) (d ++ r1 ++ r2) (W w ++ rem (W o) S2) := Eqv.app hC.1 e3
                have en := nf_eqv irr sym k eqv
                have el := eqv.len irr sym
                have nl := nf_len (fr := fr) ek
                have al2 : (W w ++ rem (W o) S2).length = (W w).length + (rem (W o) S2).length := by simp
                simp at el
                refine s_normalizes irr hV hk6 ek hR (by simp; omega) (by simp; omega) (by decide) (fun md g hm => ?_)
                rw [← en] at hm nl ⊢
                refine s_stores hm (by omega) ht (fun v' hv' hfr => ?_)
                exact hQy (hb.mp hbb) (by omega) _ _ _ _ _ _ _ _ _ _ _ hv' hfr
        refine s_lettersOfRest hT1 (by omega) hk6 hP (fun A1 hA1 hA1m => s_lettersOfRest hT2 (by omega) hk6 hP2 (fun A2 hA2 hA2m => ?_))
        have sw : (∀ x y, x < k → A1.testBit x = true → A2.testBit y = true → ind fr x y = true) ↔ ∀ x ∈ r1, ∀ y ∈ r2, ind fr x y = true := by
          constructor
          · intro h x hx y hy
            exact h x y (r1k x hx) ((hA1m x).mpr ⟨r1k x hx, hx⟩) ((hA2m y).mpr ⟨r2k y hy, hy⟩)
          · intro h x y _ hx hy
            exact h x ((hA1m x).mp hx).2 y ((hA2m y).mp hy).2
        refine s_areAllFree hF hk6 hA2 (fun hall => br_f' (by decide) ?_) (fun hall => br_t' (by decide) ?_)
        · rw [sw] at hall
          refine s_countRest hT1 l161 (s_countRest hT2 l162 ?_)
          try simp (disch := omega) only [k_0, k_1, k_2, k_3, k_4, k_6, k_7, k_10, k_11, k_12, k_13, k_14, k_16, k_32, k_36, k_40, k_41, k_42, k_43, k_49, k_64, k_80, k_96, k_97, k_100, k_109, k_110, k_127, k_128, k_146, k_147, k_160, k_2304, k_4608, k_13824, nI_add, pk_mul, pk_sub, nI_clamp, q_in, nI_ltI, nI_leI, nI_eq, forall_eq, e_shl, e_bit, e_b0, e_b1, e_bn, e_andn, fa_or, fa_and, e_m1, e_nneg]
          refine ⟨fun hle => ?_, fun hle => ?_⟩
          · refine s_pushRest hT1 l161 irr sym hk6 lk1 hP hl (by omega) (fun T1' l1 hl1 => ?_)
            refine s_pushRest hT2 l162 irr sym hk6 lk2 hP2 hl1 (by simp; omega) (fun T2' l2 hl2 => ?_)
            have dk2 : ∀ x ∈ d ++ nf fr k r1 ++ nf fr k r2, x < k := fun x hx => by
              rcases List.mem_append.mp hx with q | q
              · rcases List.mem_append.mp q with q | q
                · exact dk x q
                · exact nf_lt r1k x q
              · exact nf_lt r2k x q
            have eqv : Eqv (ind fr) (d ++ nf fr k r1 ++ nf fr k r2) (d ++ r1 ++ r2) := Eqv.app (Eqv.app (Eqv.rf d) (nf_self sym r1k)) (nf_self sym r2k)
            have en := nf_eqv irr sym k eqv
            have dl : (d ++ nf fr k r1 ++ nf fr k r2).length ≤ 16 := by simp; omega
            have nl := nf_len (fr := fr) dk2
            refine s_settle irr sym ht hF hk6 hl2 dk2 dl (fun lt' s1 s2 s3 a b c d hl3 => ?_)
            rw [en] at hl3 nl ⊢
            apply hK
            intro Q hQ
            refine ref 0 Q (fun _ h => absurd hle h) (fun _ _ a b c e v' g h i j l m hv' hfr => ?_) (fun h => absurd hall h)
            apply hQ
            have nk := nf_lt (fr := fr) dk2
            rw [en] at nk
            exact REL.word hS0 hA0 hB0 ht (by omega) nk hl3 hv' hfr
          · apply hK
            intro Q hQ
            refine ref 0 Q (fun _ h a b c e g h i j l m => ?_) (fun _ h => absurd h hle) (fun h => absurd hall h)
            first | (apply hQ; done) | (apply hQ; exact hR0)
        · rw [sw] at hall
          apply hK
          intro Q hQ
          refine ref 0 Q (fun h => absurd h hall) (fun h => absurd h hall) (fun h a b c e g h i j l m => ?_)
          first | (apply hQ; done) | (apply hQ; exact hR0)
      · refine s_word hw ?_
        (first | refine br_t (by decide) ?_ | refine br_f (by decide) ?_ | refine br_t' (by decide) ?_ | refine br_f' (by decide) ?_)
        refine s_word ho ?_
        (first | refine br_t (by decide) ?_ | refine br_f (by decide) ?_ | refine br_t' (by decide) ?_ | refine br_f' (by decide) ?_)
        refine s_wordN hx ?_
        (first | refine br_t (by decide) ?_ | refine br_f (by decide) ?_ | refine br_t' (by decide) ?_ | refine br_f' (by decide) ?_)
        apply hK
        intro Q hQ
        unfold wp_X11_commonMultiple
        refine s_isWord hw ?_
        (first | refine br_t (by decide) ?_ | refine br_f (by decide) ?_ | refine br_t' (by decide) ?_ | refine br_f' (by decide) ?_)
        refine s_isWord ho ?_
        (first | refine br_t (by decide) ?_ | refine br_f (by decide) ?_ | refine br_t' (by decide) ?_ | refine br_f' (by decide) ?_)
        refine s_isWordN hx ?_
        (first | refine br_t (by decide) ?_ | refine br_f (by decide) ?_ | refine br_t' (by decide) ?_ | refine br_f' (by decide) ?_)
        first | (apply hQ; done) | (apply hQ; exact hR0)
    · refine s_word hw ?_
      (first | refine br_t (by decide) ?_ | refine br_f (by decide) ?_ | refine br_t' (by decide) ?_ | refine br_f' (by decide) ?_)
      refine s_wordN hx ?_
      (first | refine br_t (by decide) ?_ | refine br_f (by decide) ?_ | refine br_t' (by decide) ?_ | refine br_f' (by decide) ?_)
      apply hK
      intro Q hQ
      unfold wp_X11_commonMultiple
      refine s_isWord hw ?_
      (first | refine br_t (by decide) ?_ | refine br_f (by decide) ?_ | refine br_t' (by decide) ?_ | refine br_f' (by decide) ?_)
      refine s_isWordN hx ?_
      (first | refine br_t (by decide) ?_ | refine br_f (by decide) ?_ | refine br_t' (by decide) ?_ | refine br_f' (by decide) ?_)
      first | (apply hQ; done) | (apply hQ; exact hR0)
  · refine s_wordN hx ?_
    (first | refine br_t (by decide) ?_ | refine br_f (by decide) ?_ | refine br_t' (by decide) ?_ | refine br_f' (by decide) ?_)
    apply hK
    intro Q hQ
    unfold wp_X11_commonMultiple
    refine s_isWordN hx ?_
    (first | refine br_t (by decide) ?_ | refine br_f (by decide) ?_ | refine br_t' (by decide) ?_ | refine br_f' (by decide) ?_)
    first | (apply hQ; done) | (apply hQ; exact hR0)
