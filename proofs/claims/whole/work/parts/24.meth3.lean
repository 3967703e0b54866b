/-! likeness, products, quotients, reverses -/
theorem M_alike {A_now_alphabet_count : Int32} {A_now_alphabet_free : Nat → Int32} {A_now_words_size : Nat → Int32} {A_now_words_letters : Nat → Nat → Int32} {A_now_recogniser_states : Int32} {A_now_recogniser_accepting : Int32} {A_now_recogniser_arrows : Nat → Int32} {A_places_letters : Int32} {A_places_size : Int32} {A_places_taken : Int32} {A_places_letterAt : Nat → Int32} {A_places_layerAt : Nat → Int32} {A_places_before : Nat → Int32} {A_places_placesOf : Nat → Int32} {B_v : Nat → Int32} {B_oneLength : Int32} {B_otherLength : Int32} {B_one : Nat → Int32} {B_other : Nat → Int32} {B_isGone : Nat → Int32} (x1 x2 : Int32) (hR : REL A_now_alphabet_count A_now_alphabet_free A_now_words_size A_now_words_letters A_now_recogniser_states A_now_recogniser_accepting A_now_recogniser_arrows B_v) {K : Int32 → Int32 → Int32 → Int32 → (Nat → Int32) → (Nat → Int32) → (Nat → Int32) → (Nat → Int32) → Prop} (hK : ∀ (r : Int32) A_places_letters' A_places_size' A_places_taken' A_places_letterAt' A_places_layerAt' A_places_before' A_places_placesOf', (∀ Q : Int32 → Int32 → Int32 → (Nat → Int32) → (Nat → Int32) → (Nat → Int32) → Prop, (∀ B_oneLength' B_otherLength' B_one' B_other' B_isGone', Q r B_oneLength' B_otherLength' B_one' B_other' B_isGone') → wp_X11_alike B_oneLength B_otherLength B_v B_one B_other B_isGone x1 x2 Q) → K r A_places_letters' A_places_size' A_places_taken' A_places_letterAt' A_places_layerAt' A_places_before' A_places_placesOf') : wp_X10_alike A_now_alphabet_count A_now_alphabet_free A_now_words_size A_now_words_letters A_places_letters A_places_size A_places_taken A_places_letterAt A_places_layerAt A_places_before A_places_placesOf x1 x2 K := by
  have hR0 := hR
  obtain ⟨k, fr, W, n, ar, ac, hS, hA, hB⟩ := hR
  have hS0 := hS
  have hA0 := hA
  have hB0 := hB
  obtain ⟨hFR, hWS, hn1, hn6, har, hacl⟩ := hS
  obtain ⟨rfl, hF, hW, rfl, rfl, hAr⟩ := hA
  obtain ⟨hk0, hV, hWV, hn0, hac0, hArV, hAr6⟩ := hB
  have hk6 := hFR.2.1
  have hk2 := hFR.1
  have irr := hFR.irr
  have sym := hFR.sym
  unfold wp_X10_alike
  rcases in_cases x1 (n := 6) (by omega) with ⟨w, hw, rfl⟩ | hx
  · rcases in_cases x2 (n := 6) (by omega) with ⟨o, ho, rfl⟩ | hx
    · have ws1 := (hW w hw).1
      have wr1 := hW w hw
      rw [ws1] at wr1
      have wv1 := hWV w hw
      obtain ⟨l161, lk1⟩ := hWS w hw
      have lk61 : ∀ x ∈ W w, x < 6 := fun x h => Nat.lt_of_lt_of_le (lk1 x h) hk6
      have ws2 := (hW o ho).1
      have wr2 := hW o ho
      rw [ws2] at wr2
      have wv2 := hWV o ho
      obtain ⟨l162, lk2⟩ := hWS o ho
      have lk62 : ∀ x ∈ W o, x < 6 := fun x h => Nat.lt_of_lt_of_le (lk2 x h) hk6
      have ref : ∀ Q : Int32 → Int32 → Int32 → (Nat → Int32) → (Nat → Int32) → (Nat → Int32) → Prop, (∀ a b c d e, Q (bI (dvd (ind fr) (W w) (W o) == some [])) a b c d e) → wp_X11_alike B_oneLength B_otherLength B_v B_one B_other B_isGone (nI w) (nI o) Q := by
        intro Q hQ
        unfold wp_X11_alike
        refine s_isWord hw ?_
        (first | refine br_t (by decide) ?_ | refine br_f (by decide) ?_ | refine br_t' (by decide) ?_ | refine br_f' (by decide) ?_)
        refine s_isWord ho ?_
        (first | refine br_t (by decide) ?_ | refine br_f (by decide) ?_ | refine br_t' (by decide) ?_ | refine br_f' (by decide) ?_)
        refine s_takesOne hw wv1 (fun one h1 => s_takesOther ho wv2 (fun oth h2 => s_areAlike irr hV lk61 lk62 h1 h2 (by omega) (by omega) (fun l o2 g => ?_)))
        cases hd : dvd (ind fr) (W w) (W o) == some []
        · rw [hd] at hQ; exact br_t (by decide) (hQ _ _ _ _ _)
        · rw [hd] at hQ; exact br_f (by decide) (hQ _ _ _ _ _)
      refine s_word hw ?_
      (first | refine br_t (by decide) ?_ | refine br_f (by decide) ?_ | refine br_t' (by decide) ?_ | refine br_f' (by decide) ?_)
      refine s_word ho ?_
      (first | refine br_t (by decide) ?_ | refine br_f (by decide) ?_ | refine br_t' (by decide) ?_ | refine br_f' (by decide) ?_)
      refine s_layW ho hF hk6 (hW o ho) lk2 (fun a b c d hP => ?_)
      try simp (disch := omega) only [k_0, k_1, k_2, k_3, k_4, k_6, k_7, k_10, k_11, k_12, k_13, k_14, k_16, k_32, k_36, k_40, k_41, k_42, k_43, k_49, k_64, k_80, k_96, k_97, k_100, k_109, k_110, k_127, k_128, k_146, k_147, k_160, k_2304, k_4608, k_13824, nI_add, pk_mul, pk_sub, nI_clamp, q_in, nI_ltI, nI_leI, nI_eq, forall_eq, e_shl, e_bit, e_b0, e_b1, e_bn, e_andn, fa_or, fa_and, e_m1, e_nneg]
      rw [ws1]
      refine ⟨hw, s_takeAll irr sym hP (by omega) (TK.start _) wr1 lk61 (fun r T hd hT => ?_) (fun r T hd hT => ?_)⟩
      · refine br_f (by decide) (s_allTaken hT l162 ?_)
        have e : (dvd (ind fr) (W w) (W o) == some []) = decide (r = []) := by
          rw [hd]
          cases r <;> rfl
        rw [e] at ref
        cases hr : decide (r = [])
        · rw [hr] at ref
          refine br_t (by decide) (s_num false ?_)
          apply hK
          exact ref
        · rw [hr] at ref
          refine br_f (by decide) (s_num true ?_)
          apply hK
          exact ref
      · rw [hd] at ref
        refine br_t (by decide) (s_num false ?_)
        apply hK
        exact ref
    · refine s_word hw ?_
      (first | refine br_t (by decide) ?_ | refine br_f (by decide) ?_ | refine br_t' (by decide) ?_ | refine br_f' (by decide) ?_)
      refine s_wordN hx ?_
      (first | refine br_t (by decide) ?_ | refine br_f (by decide) ?_ | refine br_t' (by decide) ?_ | refine br_f' (by decide) ?_)
      apply hK
      intro Q hQ
      unfold wp_X11_alike
      refine s_isWord hw ?_
      (first | refine br_t (by decide) ?_ | refine br_f (by decide) ?_ | refine br_t' (by decide) ?_ | refine br_f' (by decide) ?_)
      refine s_isWordN hx ?_
      (first | refine br_t (by decide) ?_ | refine br_f (by decide) ?_ | refine br_t' (by decide) ?_ | refine br_f' (by decide) ?_)
      first | (apply hQ; done) | (apply hQ; exact hR0)
  · refine s_wordN hx ?_
    (first | refine br_t (by decide) ?_ | refine br_f (by decide) ?_ | refine br_t' (by decide) ?_ | refine br_f' (by decide) ?_)
    apply hK
    intro Q hQ
    unfold wp_X11_alike
    refine s_isWordN hx ?_
    (first | refine br_t (by decide) ?_ | refine br_f (by decide) ?_ | refine br_t' (by decide) ?_ | refine br_f' (by decide) ?_)
    first | (apply hQ; done) | (apply hQ; exact hR0)
theorem s_draftPair {wz dl : Nat → Int32} {wl : Nat → Nat → Int32} {ds : Int32} {a b : Nat} {u w : List Nat} (ha : a < 6) (hb : b < 6) (hA : WR (wz a) (wl a) u) (hB : WR (wz b) (wl b) w) (hu : u.length ≤ 16) (hw : w.length ≤ 16) {K : Int32 → (Nat → Int32) → Prop} (hK : ∀ l, WR (nI (u ++ w).length) l (u ++ w) → K (nI (u ++ w).length) l) : wp_X10_draftPair wz wl ds dl (nI a) (nI b) K := by
  unfold wp_X10_draftPair wp_X9_empty
  try simp (disch := omega) only [k_0, k_1, k_2, k_3, k_4, k_6, k_7, k_10, k_11, k_12, k_13, k_14, k_16, k_32, k_36, k_40, k_41, k_42, k_43, k_49, k_64, k_80, k_96, k_97, k_100, k_109, k_110, k_127, k_128, k_146, k_147, k_160, k_2304, k_4608, k_13824, nI_add, pk_mul, pk_sub, nI_clamp, q_in, nI_ltI, nI_leI, nI_eq, forall_eq, e_shl, e_bit, e_b0, e_b1, e_bn, e_andn, fa_or, fa_and, e_m1, e_nneg]
  have h1 := hA.1
  have h2 := hB.1
  rw [h1] at hA
  rw [h2] at hB
  rw [h1, h2]
  refine ⟨ha, s_pushAll (u := []) ⟨rfl, by simp, fun i hi => absurd hi (Nat.not_lt_zero _)⟩ hA (by simp; omega) (fun l hl => ⟨hb, ?_⟩)⟩
  exact s_pushAll hl hB (by simp; omega) hK
theorem s_appendRow {N : Nat} {Q : (Nat → Int32) → Prop} {one other : Nat → Int32} {u w : List Nat} (hU : RW one u) (hO : RW other w) (h : ∀ o, RW o (u ++ w) → Q o) : ∀ o, (∀ i, RW o (u ++ w.take i) → i = w.length → Q o) := fun o i hi e => h o (by rw [e, List.take_length] at hi; exact hi)
theorem M_commute {A_now_alphabet_count : Int32} {A_now_alphabet_free : Nat → Int32} {A_now_words_size : Nat → Int32} {A_now_words_letters : Nat → Nat → Int32} {A_now_recogniser_states : Int32} {A_now_recogniser_accepting : Int32} {A_now_recogniser_arrows : Nat → Int32} {A_draft_size : Int32} {A_draft_letters : Nat → Int32} {A_places_letters : Int32} {A_places_size : Int32} {A_places_taken : Int32} {A_places_letterAt : Nat → Int32} {A_places_layerAt : Nat → Int32} {A_places_before : Nat → Int32} {A_places_placesOf : Nat → Int32} {B_v : Nat → Int32} {B_oneLength : Int32} {B_otherLength : Int32} {B_one : Nat → Int32} {B_other : Nat → Int32} {B_isGone : Nat → Int32} (x1 x2 : Int32) (hR : REL A_now_alphabet_count A_now_alphabet_free A_now_words_size A_now_words_letters A_now_recogniser_states A_now_recogniser_accepting A_now_recogniser_arrows B_v) {K : Int32 → Int32 → (Nat → Int32) → Int32 → Int32 → Int32 → (Nat → Int32) → (Nat → Int32) → (Nat → Int32) → (Nat → Int32) → Prop} (hK : ∀ (r : Int32) A_draft_size' A_draft_letters' A_places_letters' A_places_size' A_places_taken' A_places_letterAt' A_places_layerAt' A_places_before' A_places_placesOf', (∀ Q : Int32 → Int32 → Int32 → (Nat → Int32) → (Nat → Int32) → (Nat → Int32) → Prop, (∀ B_oneLength' B_otherLength' B_one' B_other' B_isGone', Q r B_oneLength' B_otherLength' B_one' B_other' B_isGone') → wp_X11_commute B_oneLength B_otherLength B_v B_one B_other B_isGone x1 x2 Q) → K r A_draft_size' A_draft_letters' A_places_letters' A_places_size' A_places_taken' A_places_letterAt' A_places_layerAt' A_places_before' A_places_placesOf') : wp_X10_commute A_now_alphabet_count A_now_alphabet_free A_now_words_size A_now_words_letters A_draft_size A_draft_letters A_places_letters A_places_size A_places_taken A_places_letterAt A_places_layerAt A_places_before A_places_placesOf x1 x2 K := by
  have hR0 := hR
  obtain ⟨k, fr, W, n, ar, ac, hS, hA, hB⟩ := hR
  have hS0 := hS
  have hA0 := hA
  have hB0 := hB
  obtain ⟨hFR, hWS, hn1, hn6, har, hacl⟩ := hS
  obtain ⟨rfl, hF, hW, rfl, rfl, hAr⟩ := hA
  obtain ⟨hk0, hV, hWV, hn0, hac0, hArV, hAr6⟩ := hB
  have hk6 := hFR.2.1
  have hk2 := hFR.1
  have irr := hFR.irr
  have sym := hFR.sym
  unfold wp_X10_commute
  rcases in_cases x1 (n := 6) (by omega) with ⟨w, hw, rfl⟩ | hx
  · rcases in_cases x2 (n := 6) (by omega) with ⟨o, ho, rfl⟩ | hx
    · have ws1 := (hW w hw).1
      have wr1 := hW w hw
      rw [ws1] at wr1
      have wv1 := hWV w hw
      obtain ⟨l161, lk1⟩ := hWS w hw
      have lk61 : ∀ x ∈ W w, x < 6 := fun x h => Nat.lt_of_lt_of_le (lk1 x h) hk6
      have ws2 := (hW o ho).1
      have wr2 := hW o ho
      rw [ws2] at wr2
      have wv2 := hWV o ho
      obtain ⟨l162, lk2⟩ := hWS o ho
      have lk62 : ∀ x ∈ W o, x < 6 := fun x h => Nat.lt_of_lt_of_le (lk2 x h) hk6
      have kwo : ∀ x ∈ W w ++ W o, x < k := fun x hx => by
        rcases List.mem_append.mp hx with q | q
        · exact lk1 x q
        · exact lk2 x q
      have kow : ∀ x ∈ W o ++ W w, x < 6 := fun x hx => by
        rcases List.mem_append.mp hx with q | q
        · exact lk62 x q
        · exact lk61 x q
      have ref : ∀ Q : Int32 → Int32 → Int32 → (Nat → Int32) → (Nat → Int32) → (Nat → Int32) → Prop, (∀ a b c d e, Q (bI (dvd (ind fr) (W w ++ W o) (W o ++ W w) == some [])) a b c d e) → wp_X11_commute B_oneLength B_otherLength B_v B_one B_other B_isGone (nI w) (nI o) Q := by
        intro Q hQ
        unfold wp_X11_commute
        refine s_isWord hw ?_
        (first | refine br_t (by decide) ?_ | refine br_f (by decide) ?_ | refine br_t' (by decide) ?_ | refine br_f' (by decide) ?_)
        refine s_isWord ho ?_
        (first | refine br_t (by decide) ?_ | refine br_f (by decide) ?_ | refine br_t' (by decide) ?_ | refine br_f' (by decide) ?_)
        refine s_takesOne hw wv1 (fun one h1 => s_takesOther ho wv2 (fun oth h2 => ?_))
        refine for_X11_commute_L40 _ _ _ _ ((W o).length) (fun i o1 => RW o1 (W w ++ (W o).take i)) ?_ ?_ (0) _ _ rfl (Nat.zero_le _) (by simpa using h1)
        · intro again i o1 hi hJ hag
          unfold wp_X11_commute_L40
          try simp (disch := omega) only [k_0, k_1, k_2, k_3, k_4, k_6, k_7, k_10, k_11, k_12, k_13, k_14, k_16, k_32, k_36, k_40, k_41, k_42, k_43, k_49, k_64, k_80, k_96, k_97, k_100, k_109, k_110, k_127, k_128, k_146, k_147, k_160, k_2304, k_4608, k_13824, nI_add, pk_mul, pk_sub, nI_clamp, q_in, nI_ltI, nI_leI, nI_eq, forall_eq, e_shl, e_bit, e_b0, e_b1, e_bn, e_andn, fa_or, fa_and, e_m1, e_nneg]
          repeat (first | refine And.intro (fun hh => absurd hh (by omega)) (fun _ => ?_) | refine And.intro (fun _ => ?_) (fun hh => absurd hh (by omega)) | refine And.intro (by omega) ?_)
          have hp := hJ.push ((W o).getD i 0)
          rw [List.append_assoc, ← take_snoc hi] at hp
          rw [h2 i hi]
          refine hag _ ?_
          have e : (W w ++ (W o).take i).length = (W w).length + i := by simp; omega
          rw [e] at hp
          exact hp
        · intro again o1 hJ
          rw [List.take_length] at hJ
          unfold wp_X11_commute_L40
          try simp (disch := omega) only [k_0, k_1, k_2, k_3, k_4, k_6, k_7, k_10, k_11, k_12, k_13, k_14, k_16, k_32, k_36, k_40, k_41, k_42, k_43, k_49, k_64, k_80, k_96, k_97, k_100, k_109, k_110, k_127, k_128, k_146, k_147, k_160, k_2304, k_4608, k_13824, nI_add, pk_mul, pk_sub, nI_clamp, q_in, nI_ltI, nI_leI, nI_eq, forall_eq, e_shl, e_bit, e_b0, e_b1, e_bn, e_andn, fa_or, fa_and, e_m1, e_nneg]
          repeat (first | refine And.intro (fun hh => absurd hh (by omega)) (fun _ => ?_) | refine And.intro (fun _ => ?_) (fun hh => absurd hh (by omega)) | refine And.intro (by omega) ?_)
          refine for_X11_commute_L72 _ _ _ _ ((W w).length) (fun i o2 => RW o2 (W o ++ (W w).take i)) ?_ ?_ (0) _ _ rfl (Nat.zero_le _) (by simpa using h2)
          · intro again2 i o2 hi hJ2 hag2
            unfold wp_X11_commute_L72
            try simp (disch := omega) only [k_0, k_1, k_2, k_3, k_4, k_6, k_7, k_10, k_11, k_12, k_13, k_14, k_16, k_32, k_36, k_40, k_41, k_42, k_43, k_49, k_64, k_80, k_96, k_97, k_100, k_109, k_110, k_127, k_128, k_146, k_147, k_160, k_2304, k_4608, k_13824, nI_add, pk_mul, pk_sub, nI_clamp, q_in, nI_ltI, nI_leI, nI_eq, forall_eq, e_shl, e_bit, e_b0, e_b1, e_bn, e_andn, fa_or, fa_and, e_m1, e_nneg]
            repeat (first | refine And.intro (fun hh => absurd hh (by omega)) (fun _ => ?_) | refine And.intro (fun _ => ?_) (fun hh => absurd hh (by omega)) | refine And.intro (by omega) ?_)
            have hp := hJ2.push ((W w).getD i 0)
            rw [List.append_assoc, ← take_snoc hi] at hp
            rw [hJ.left i hi]
            refine hag2 _ ?_
            have e : (W o ++ (W w).take i).length = (W o).length + i := by simp; omega
            rw [e] at hp
            exact hp
          · intro again2 o2 hJ2
            rw [List.take_length] at hJ2
            unfold wp_X11_commute_L72
            try simp (disch := omega) only [k_0, k_1, k_2, k_3, k_4, k_6, k_7, k_10, k_11, k_12, k_13, k_14, k_16, k_32, k_36, k_40, k_41, k_42, k_43, k_49, k_64, k_80, k_96, k_97, k_100, k_109, k_110, k_127, k_128, k_146, k_147, k_160, k_2304, k_4608, k_13824, nI_add, pk_mul, pk_sub, nI_clamp, q_in, nI_ltI, nI_leI, nI_eq, forall_eq, e_shl, e_bit, e_b0, e_b1, e_bn, e_andn, fa_or, fa_and, e_m1, e_nneg]
            repeat (first | refine And.intro (fun hh => absurd hh (by omega)) (fun _ => ?_) | refine And.intro (fun _ => ?_) (fun hh => absurd hh (by omega)) | refine And.intro (by omega) ?_)
            have e1 : (W w).length + (W o).length = (W w ++ W o).length := by simp
            have e2 : nI (W w ++ W o).length = nI (W o ++ W w).length := by simp [Nat.add_comm]
            rw [e1]
            have h3 := s_areAlike (v := B_v) (gone := B_isGone) irr hV (fun x hx => Nat.lt_of_lt_of_le (kwo x hx) hk6) kow hJ hJ2 (by simp; omega) (by simp; omega) (K := fun r_11 t_otherLength_12 t_other_13 t_isGone_14 => ((r_11 = nI 0 → Q (nI 0) (nI (W w ++ W o).length) t_otherLength_12 o1 t_other_13 t_isGone_14) ∧ (¬ r_11 = nI 0 → Q (nI 1) (nI (W w ++ W o).length) t_otherLength_12 o1 t_other_13 t_isGone_14))) (fun l o2 g => ?_)
            · rw [← e2] at h3
              exact h3
            · cases hd : dvd (ind fr) (W w ++ W o) (W o ++ W w) == some []
              · rw [hd] at hQ; exact br_t (by decide) (hQ _ _ _ _ _)
              · rw [hd] at hQ; exact br_f (by decide) (hQ _ _ _ _ _)
      have main : ∀ r : Option (List Nat), dvd (ind fr) (W o ++ W w) (W w ++ W o) = r → (dvd (ind fr) (W w ++ W o) (W o ++ W w) == some []) = r.isSome := by
        intro r hr
        cases r with
        | some r =>
          have h1 := dvd_len _ _ _ hr
          simp at h1
          have h2 : r = [] := List.length_eq_zero_iff.mp (by omega)
          rw [h2] at hr
          rw [(dvd_nil irr sym _ _).mpr ((dvd_nil irr sym _ _).mp hr).sy]
          rfl
        | none =>
          cases hd : dvd (ind fr) (W w ++ W o) (W o ++ W w) == some [] with
          | false => rfl
          | true =>
            rw [beq_iff_eq] at hd
            rw [(dvd_nil irr sym _ _).mpr ((dvd_nil irr sym _ _).mp hd).sy] at hr
            cases hr
      refine s_word hw ?_
      (first | refine br_t (by decide) ?_ | refine br_f (by decide) ?_ | refine br_t' (by decide) ?_ | refine br_f' (by decide) ?_)
      refine s_word ho ?_
      (first | refine br_t (by decide) ?_ | refine br_f (by decide) ?_ | refine br_t' (by decide) ?_ | refine br_f' (by decide) ?_)
      refine s_draftPair hw ho (hW w hw) (hW o ho) l161 l162 (fun dl hdl => ?_)
      refine s_lay hF hk6 hdl kwo (fun a b c d hP => ?_)
      try simp (disch := omega) only [k_0, k_1, k_2, k_3, k_4, k_6, k_7, k_10, k_11, k_12, k_13, k_14, k_16, k_32, k_36, k_40, k_41, k_42, k_43, k_49, k_64, k_80, k_96, k_97, k_100, k_109, k_110, k_127, k_128, k_146, k_147, k_160, k_2304, k_4608, k_13824, nI_add, pk_mul, pk_sub, nI_clamp, q_in, nI_ltI, nI_leI, nI_eq, forall_eq, e_shl, e_bit, e_b0, e_b1, e_bn, e_andn, fa_or, fa_and, e_m1, e_nneg]
      rw [ws1, ws2]
      refine ⟨ho, s_takeAll irr sym hP (by simp; omega) (TK.start _) wr2 lk62 (fun r T hd hT => br_f (by decide) ⟨hw, ?_⟩) (fun r T hd hT => ?_)⟩
      · refine s_takeAll irr sym hP (by simp; omega) hT wr1 lk61 (fun r2 T2 hd2 hT2 => ?_) (fun r2 T2 hd2 hT2 => ?_)
        · have e := main (some r2) (by rw [dvd_app, hd]; exact hd2)
          rw [e] at ref
          refine br_f (by decide) (s_num true ?_)
          apply hK
          exact ref
        · have e := main none (by rw [dvd_app, hd]; exact hd2)
          rw [e] at ref
          refine br_t (by decide) (s_num false ?_)
          apply hK
          exact ref
      · have e := main none (by rw [dvd_app, hd])
        rw [e] at ref
        refine br_t (by decide) (s_num false ?_)
        apply hK
        exact ref
    · refine s_word hw ?_
      (first | refine br_t (by decide) ?_ | refine br_f (by decide) ?_ | refine br_t' (by decide) ?_ | refine br_f' (by decide) ?_)
      refine s_wordN hx ?_
      (first | refine br_t (by decide) ?_ | refine br_f (by decide) ?_ | refine br_t' (by decide) ?_ | refine br_f' (by decide) ?_)
      apply hK
      intro Q hQ
      unfold wp_X11_commute
      refine s_isWord hw ?_
      (first | refine br_t (by decide) ?_ | refine br_f (by decide) ?_ | refine br_t' (by decide) ?_ | refine br_f' (by decide) ?_)
      refine s_isWordN hx ?_
      (first | refine br_t (by decide) ?_ | refine br_f (by decide) ?_ | refine br_t' (by decide) ?_ | refine br_f' (by decide) ?_)
      first | (apply hQ; done) | (apply hQ; exact hR0)
  · refine s_wordN hx ?_
    (first | refine br_t (by decide) ?_ | refine br_f (by decide) ?_ | refine br_t' (by decide) ?_ | refine br_f' (by decide) ?_)
    apply hK
    intro Q hQ
    unfold wp_X11_commute
    refine s_isWordN hx ?_
    (first | refine br_t (by decide) ?_ | refine br_f (by decide) ?_ | refine br_t' (by decide) ?_ | refine br_f' (by decide) ?_)
    first | (apply hQ; done) | (apply hQ; exact hR0)
theorem M_isPrefix {A_now_alphabet_count : Int32} {A_now_alphabet_free : Nat → Int32} {A_now_words_size : Nat → Int32} {A_now_words_letters : Nat → Nat → Int32} {A_now_recogniser_states : Int32} {A_now_recogniser_accepting : Int32} {A_now_recogniser_arrows : Nat → Int32} {A_places_letters : Int32} {A_places_size : Int32} {A_places_taken : Int32} {A_places_letterAt : Nat → Int32} {A_places_layerAt : Nat → Int32} {A_places_before : Nat → Int32} {A_places_placesOf : Nat → Int32} {B_v : Nat → Int32} {B_oneLength : Int32} {B_otherLength : Int32} {B_one : Nat → Int32} {B_other : Nat → Int32} {B_isGone : Nat → Int32} (x1 x2 : Int32) (hR : REL A_now_alphabet_count A_now_alphabet_free A_now_words_size A_now_words_letters A_now_recogniser_states A_now_recogniser_accepting A_now_recogniser_arrows B_v) {K : Int32 → Int32 → Int32 → Int32 → (Nat → Int32) → (Nat → Int32) → (Nat → Int32) → (Nat → Int32) → Prop} (hK : ∀ (r : Int32) A_places_letters' A_places_size' A_places_taken' A_places_letterAt' A_places_layerAt' A_places_before' A_places_placesOf', (∀ Q : Int32 → Int32 → Int32 → (Nat → Int32) → (Nat → Int32) → (Nat → Int32) → Prop, (∀ B_oneLength' B_otherLength' B_one' B_other' B_isGone', Q r B_oneLength' B_otherLength' B_one' B_other' B_isGone') → wp_X11_isPrefix B_oneLength B_otherLength B_v B_one B_other B_isGone x1 x2 Q) → K r A_places_letters' A_places_size' A_places_taken' A_places_letterAt' A_places_layerAt' A_places_before' A_places_placesOf') : wp_X10_isPrefix A_now_alphabet_count A_now_alphabet_free A_now_words_size A_now_words_letters A_places_letters A_places_size A_places_taken A_places_letterAt A_places_layerAt A_places_before A_places_placesOf x1 x2 K := by
  have hR0 := hR
  obtain ⟨k, fr, W, n, ar, ac, hS, hA, hB⟩ := hR
  have hS0 := hS
  have hA0 := hA
  have hB0 := hB
  obtain ⟨hFR, hWS, hn1, hn6, har, hacl⟩ := hS
  obtain ⟨rfl, hF, hW, rfl, rfl, hAr⟩ := hA
  obtain ⟨hk0, hV, hWV, hn0, hac0, hArV, hAr6⟩ := hB
  have hk6 := hFR.2.1
  have hk2 := hFR.1
  have irr := hFR.irr
  have sym := hFR.sym
  unfold wp_X10_isPrefix
  rcases in_cases x1 (n := 6) (by omega) with ⟨w, hw, rfl⟩ | hx
  · rcases in_cases x2 (n := 6) (by omega) with ⟨o, ho, rfl⟩ | hx
    · have ws1 := (hW w hw).1
      have wr1 := hW w hw
      rw [ws1] at wr1
      have wv1 := hWV w hw
      obtain ⟨l161, lk1⟩ := hWS w hw
      have lk61 : ∀ x ∈ W w, x < 6 := fun x h => Nat.lt_of_lt_of_le (lk1 x h) hk6
      have ws2 := (hW o ho).1
      have wr2 := hW o ho
      rw [ws2] at wr2
      have wv2 := hWV o ho
      obtain ⟨l162, lk2⟩ := hWS o ho
      have lk62 : ∀ x ∈ W o, x < 6 := fun x h => Nat.lt_of_lt_of_le (lk2 x h) hk6
      refine s_word hw ?_
      (first | refine br_t (by decide) ?_ | refine br_f (by decide) ?_ | refine br_t' (by decide) ?_ | refine br_f' (by decide) ?_)
      refine s_word ho ?_
      (first | refine br_t (by decide) ?_ | refine br_f (by decide) ?_ | refine br_t' (by decide) ?_ | refine br_f' (by decide) ?_)
      refine s_layW ho hF hk6 (hW o ho) lk2 (fun a b c d hP => ?_)
      try simp (disch := omega) only [k_0, k_1, k_2, k_3, k_4, k_6, k_7, k_10, k_11, k_12, k_13, k_14, k_16, k_32, k_36, k_40, k_41, k_42, k_43, k_49, k_64, k_80, k_96, k_97, k_100, k_109, k_110, k_127, k_128, k_146, k_147, k_160, k_2304, k_4608, k_13824, nI_add, pk_mul, pk_sub, nI_clamp, q_in, nI_ltI, nI_leI, nI_eq, forall_eq, e_shl, e_bit, e_b0, e_b1, e_bn, e_andn, fa_or, fa_and, e_m1, e_nneg]
      rw [ws1]
      refine ⟨hw, s_takeAll irr sym hP (by omega) (TK.start _) wr1 lk61 (fun r T hd hT => ?_) (fun r T hd hT => ?_)⟩
      · refine s_num true ?_
        apply hK
        intro Q hQ
        unfold wp_X11_isPrefix
        refine s_isWord hw ?_
        (first | refine br_t (by decide) ?_ | refine br_f (by decide) ?_ | refine br_t' (by decide) ?_ | refine br_f' (by decide) ?_)
        refine s_isWord ho ?_
        (first | refine br_t (by decide) ?_ | refine br_f (by decide) ?_ | refine br_t' (by decide) ?_ | refine br_f' (by decide) ?_)
        refine s_takesOne hw wv1 (fun one h1 => s_takesOther ho wv2 (fun oth h2 => s_divides irr hV lk61 lk62 h1 h2 (by omega) (by omega) (fun r o2 g e _ => ?_) (fun g e => ?_)))
        · (first | refine br_t (by decide) ?_ | refine br_f (by decide) ?_ | refine br_t' (by decide) ?_ | refine br_f' (by decide) ?_)
          first | (apply hQ; done) | (apply hQ; exact hR0)
        · rw [hd] at e; cases e
      · refine s_num false ?_
        apply hK
        intro Q hQ
        unfold wp_X11_isPrefix
        refine s_isWord hw ?_
        (first | refine br_t (by decide) ?_ | refine br_f (by decide) ?_ | refine br_t' (by decide) ?_ | refine br_f' (by decide) ?_)
        refine s_isWord ho ?_
        (first | refine br_t (by decide) ?_ | refine br_f (by decide) ?_ | refine br_t' (by decide) ?_ | refine br_f' (by decide) ?_)
        refine s_takesOne hw wv1 (fun one h1 => s_takesOther ho wv2 (fun oth h2 => s_divides irr hV lk61 lk62 h1 h2 (by omega) (by omega) (fun r o2 g e _ => ?_) (fun g e => ?_)))
        · rw [hd] at e; cases e
        · (first | refine br_t (by decide) ?_ | refine br_f (by decide) ?_ | refine br_t' (by decide) ?_ | refine br_f' (by decide) ?_)
          first | (apply hQ; done) | (apply hQ; exact hR0)
    · refine s_word hw ?_
      (first | refine br_t (by decide) ?_ | refine br_f (by decide) ?_ | refine br_t' (by decide) ?_ | refine br_f' (by decide) ?_)
      refine s_wordN hx ?_
      (first | refine br_t (by decide) ?_ | refine br_f (by decide) ?_ | refine br_t' (by decide) ?_ | refine br_f' (by decide) ?_)
      apply hK
      intro Q hQ
      unfold wp_X11_isPrefix
      refine s_isWord hw ?_
      (first | refine br_t (by decide) ?_ | refine br_f (by decide) ?_ | refine br_t' (by decide) ?_ | refine br_f' (by decide) ?_)
      refine s_isWordN hx ?_
      (first | refine br_t (by decide) ?_ | refine br_f (by decide) ?_ | refine br_t' (by decide) ?_ | refine br_f' (by decide) ?_)
      first | (apply hQ; done) | (apply hQ; exact hR0)
  · refine s_wordN hx ?_
    (first | refine br_t (by decide) ?_ | refine br_f (by decide) ?_ | refine br_t' (by decide) ?_ | refine br_f' (by decide) ?_)
    apply hK
    intro Q hQ
    unfold wp_X11_isPrefix
    refine s_isWordN hx ?_
    (first | refine br_t (by decide) ?_ | refine br_f (by decide) ?_ | refine br_t' (by decide) ?_ | refine br_f' (by decide) ?_)
    first | (apply hQ; done) | (apply hQ; exact hR0)
theorem s_settle {free wsz dl lA yA bA pA : Nat → Int32} {wlt : Nat → Nat → Int32} {pl ps pt : Int32} {fr : Nat → Nat} {k w : Nat} (irr : ∀ a, ind fr a a = false) (sym : ∀ a b, ind fr a b = ind fr b a) (hw : w < 6) (hf : FA free fr) (hk : k ≤ 6) {u : List Nat} (hW : WR (nI u.length) dl u) (hu : ∀ x ∈ u, x < k) (h16 : u.length ≤ 16) {K : Int32 → (Nat → Int32) → (Nat → Nat → Int32) → Int32 → Int32 → Int32 → (Nat → Int32) → (Nat → Int32) → (Nat → Int32) → (Nat → Int32) → Prop} (hK : ∀ lt' s1 s2 s3 a b c d, WR (nI (nf fr k u).length) lt' (nf fr k u) → K (nI (nf fr k u).length) (va_up wsz w (nI (nf fr k u).length)) (va_up wlt w lt') s1 s2 s3 a b c d) : wp_X10_settleDraft (nI k) free wsz wlt (nI u.length) dl pl ps pt lA yA bA pA (nI w) K := by
  unfold wp_X10_settleDraft
  refine s_lay hf hk hW hu (fun a b c d hP => ?_)
  try simp (disch := omega) only [k_0, k_1, k_2, k_3, k_4, k_6, k_7, k_10, k_11, k_12, k_13, k_14, k_16, k_32, k_36, k_40, k_41, k_42, k_43, k_49, k_64, k_80, k_96, k_97, k_100, k_109, k_110, k_127, k_128, k_146, k_147, k_160, k_2304, k_4608, k_13824, nI_add, pk_mul, pk_sub, nI_clamp, q_in, nI_ltI, nI_leI, nI_eq, forall_eq, e_shl, e_bit, e_b0, e_b1, e_bn, e_andn, fa_or, fa_and, e_m1, e_nneg]
  refine ⟨hw, s_writeRest (TK.start _) h16 irr sym hk hu hP (fun T lt' hl => ⟨hw, ?_⟩)⟩
  rw [up_s]
  exact hK _ _ _ _ _ _ _ _ hl
theorem M_product {A_now_alphabet_count : Int32} {A_now_alphabet_free : Nat → Int32} {A_now_words_size : Nat → Int32} {A_now_words_letters : Nat → Nat → Int32} {A_now_recogniser_states : Int32} {A_now_recogniser_accepting : Int32} {A_now_recogniser_arrows : Nat → Int32} {A_draft_size : Int32} {A_draft_letters : Nat → Int32} {A_places_letters : Int32} {A_places_size : Int32} {A_places_taken : Int32} {A_places_letterAt : Nat → Int32} {A_places_layerAt : Nat → Int32} {A_places_before : Nat → Int32} {A_places_placesOf : Nat → Int32} {B_v : Nat → Int32} {B_oneLength : Int32} {B_otherLength : Int32} {B_madeLength : Int32} {B_one : Nat → Int32} {B_other : Nat → Int32} {B_made : Nat → Int32} {B_isGone : Nat → Int32} (x1 x2 x3 : Int32) (hR : REL A_now_alphabet_count A_now_alphabet_free A_now_words_size A_now_words_letters A_now_recogniser_states A_now_recogniser_accepting A_now_recogniser_arrows B_v) {K : Int32 → (Nat → Int32) → (Nat → Nat → Int32) → Int32 → (Nat → Int32) → Int32 → Int32 → Int32 → (Nat → Int32) → (Nat → Int32) → (Nat → Int32) → (Nat → Int32) → Prop} (hK : ∀ (r : Int32) A_now_words_size' A_now_words_letters' A_draft_size' A_draft_letters' A_places_letters' A_places_size' A_places_taken' A_places_letterAt' A_places_layerAt' A_places_before' A_places_placesOf', (∀ Q : Int32 → Int32 → Int32 → Int32 → (Nat → Int32) → (Nat → Int32) → (Nat → Int32) → (Nat → Int32) → (Nat → Int32) → Prop, (∀ B_oneLength' B_otherLength' B_madeLength' B_v' B_one' B_other' B_made' B_isGone', REL A_now_alphabet_count A_now_alphabet_free A_now_words_size' A_now_words_letters' A_now_recogniser_states A_now_recogniser_accepting A_now_recogniser_arrows B_v' → Q r B_oneLength' B_otherLength' B_madeLength' B_v' B_one' B_other' B_made' B_isGone') → wp_X11_product B_oneLength B_otherLength B_madeLength B_v B_one B_other B_made B_isGone x1 x2 x3 Q) → K r A_now_words_size' A_now_words_letters' A_draft_size' A_draft_letters' A_places_letters' A_places_size' A_places_taken' A_places_letterAt' A_places_layerAt' A_places_before' A_places_placesOf') : wp_X10_product A_now_alphabet_count A_now_alphabet_free A_now_words_size A_now_words_letters A_draft_size A_draft_letters A_places_letters A_places_size A_places_taken A_places_letterAt A_places_layerAt A_places_before A_places_placesOf x1 x2 x3 K := by
  have hR0 := hR
  obtain ⟨k, fr, W, n, ar, ac, hS, hA, hB⟩ := hR
  have hS0 := hS
  have hA0 := hA
  have hB0 := hB
  obtain ⟨hFR, hWS, hn1, hn6, har, hacl⟩ := hS
  obtain ⟨rfl, hF, hW, rfl, rfl, hAr⟩ := hA
  obtain ⟨hk0, hV, hWV, hn0, hac0, hArV, hAr6⟩ := hB
  have hk6 := hFR.2.1
  have hk2 := hFR.1
  have irr := hFR.irr
  have sym := hFR.sym
  unfold wp_X10_product
  rcases in_cases x1 (n := 6) (by omega) with ⟨w, hw, rfl⟩ | hx
  · rcases in_cases x2 (n := 6) (by omega) with ⟨o, ho, rfl⟩ | hx
    · rcases in_cases x3 (n := 6) (by omega) with ⟨t, ht, rfl⟩ | hx
      · have ws1 := (hW w hw).1
        have wr1 := hW w hw
        rw [ws1] at wr1
        have wv1 := hWV w hw
        obtain ⟨l161, lk1⟩ := hWS w hw
        have lk61 : ∀ x ∈ W w, x < 6 := fun x h => Nat.lt_of_lt_of_le (lk1 x h) hk6
        have ws2 := (hW o ho).1
        have wr2 := hW o ho
        rw [ws2] at wr2
        have wv2 := hWV o ho
        obtain ⟨l162, lk2⟩ := hWS o ho
        have lk62 : ∀ x ∈ W o, x < 6 := fun x h => Nat.lt_of_lt_of_le (lk2 x h) hk6
        have kwo : ∀ x ∈ W w ++ W o, x < k := fun x hx => by
          rcases List.mem_append.mp hx with q | q
          · exact lk1 x q
          · exact lk2 x q
        have nl := nf_len (fr := fr) kwo
        refine s_word hw ?_
        (first | refine br_t (by decide) ?_ | refine br_f (by decide) ?_ | refine br_t' (by decide) ?_ | refine br_f' (by decide) ?_)
        refine s_word ho ?_
        (first | refine br_t (by decide) ?_ | refine br_f (by decide) ?_ | refine br_t' (by decide) ?_ | refine br_f' (by decide) ?_)
        refine s_word ht ?_
        (first | refine br_t (by decide) ?_ | refine br_f (by decide) ?_ | refine br_t' (by decide) ?_ | refine br_f' (by decide) ?_)
        refine s_draftPair hw ho (hW w hw) (hW o ho) l161 l162 (fun dl hdl => ?_)
        have hl2 : (W w ++ W o).length = (W w).length + (W o).length := by simp
        rw [k_16, nI_leI (by omega) (by decide)]
        refine ⟨fun hle => s_settle irr sym ht hF hk6 hdl kwo hle (fun lt' s1 s2 s3 a b c d hl => ?_), fun hle => ?_⟩
        · apply hK
          intro Q hQ
          unfold wp_X11_product
          refine s_isWord hw ?_
          (first | refine br_t (by decide) ?_ | refine br_f (by decide) ?_ | refine br_t' (by decide) ?_ | refine br_f' (by decide) ?_)
          refine s_isWord ho ?_
          (first | refine br_t (by decide) ?_ | refine br_f (by decide) ?_ | refine br_t' (by decide) ?_ | refine br_f' (by decide) ?_)
          refine s_isWord ht ?_
          (first | refine br_t (by decide) ?_ | refine br_f (by decide) ?_ | refine br_t' (by decide) ?_ | refine br_f' (by decide) ?_)
          try simp (disch := omega) only [k_0, k_1, k_2, k_3, k_4, k_6, k_7, k_10, k_11, k_12, k_13, k_14, k_16, k_32, k_36, k_40, k_41, k_42, k_43, k_49, k_64, k_80, k_96, k_97, k_100, k_109, k_110, k_127, k_128, k_146, k_147, k_160, k_2304, k_4608, k_13824, nI_add, pk_mul, pk_sub, nI_clamp, q_in, nI_ltI, nI_leI, nI_eq, forall_eq, e_shl, e_bit, e_b0, e_b1, e_bn, e_andn, fa_or, fa_and, e_m1, e_nneg]
          rw [wv1.1, wv2.1]
          try simp (disch := omega) only [k_0, k_1, k_2, k_3, k_4, k_6, k_7, k_10, k_11, k_12, k_13, k_14, k_16, k_32, k_36, k_40, k_41, k_42, k_43, k_49, k_64, k_80, k_96, k_97, k_100, k_109, k_110, k_127, k_128, k_146, k_147, k_160, k_2304, k_4608, k_13824, nI_add, pk_mul, pk_sub, nI_clamp, q_in, nI_ltI, nI_leI, nI_eq, forall_eq, e_shl, e_bit, e_b0, e_b1, e_bn, e_andn, fa_or, fa_and, e_m1, e_nneg]
          refine ⟨by omega, by omega, fun _ => ?_, fun q => absurd (by omega) q⟩
          refine s_takesOne hw wv1 (fun one h1 => s_takesOther ho wv2 (fun oth h2 => ?_))
          refine for_X11_product_L63 _ _ _ _ ((W o).length) (fun i o1 => RW o1 (W w ++ (W o).take i)) ?_ ?_ (0) _ _ rfl (Nat.zero_le _) (by simpa using h1)
          · intro again i o1 hi hJ hag
            unfold wp_X11_product_L63
            try simp (disch := omega) only [k_0, k_1, k_2, k_3, k_4, k_6, k_7, k_10, k_11, k_12, k_13, k_14, k_16, k_32, k_36, k_40, k_41, k_42, k_43, k_49, k_64, k_80, k_96, k_97, k_100, k_109, k_110, k_127, k_128, k_146, k_147, k_160, k_2304, k_4608, k_13824, nI_add, pk_mul, pk_sub, nI_clamp, q_in, nI_ltI, nI_leI, nI_eq, forall_eq, e_shl, e_bit, e_b0, e_b1, e_bn, e_andn, fa_or, fa_and, e_m1, e_nneg]
            repeat (first | refine And.intro (fun hh => absurd hh (by omega)) (fun _ => ?_) | refine And.intro (fun _ => ?_) (fun hh => absurd hh (by omega)) | refine And.intro (by omega) ?_)
            have hp := hJ.push ((W o).getD i 0)
            rw [List.append_assoc, ← take_snoc hi] at hp
            rw [h2 i hi]
            refine hag _ ?_
            have e : (W w ++ (W o).take i).length = (W w).length + i := by simp; omega
            rw [e] at hp
            exact hp
          · intro again o1 hJ
            rw [List.take_length] at hJ
            unfold wp_X11_product_L63
            try simp (disch := omega) only [k_0, k_1, k_2, k_3, k_4, k_6, k_7, k_10, k_11, k_12, k_13, k_14, k_16, k_32, k_36, k_40, k_41, k_42, k_43, k_49, k_64, k_80, k_96, k_97, k_100, k_109, k_110, k_127, k_128, k_146, k_147, k_160, k_2304, k_4608, k_13824, nI_add, pk_mul, pk_sub, nI_clamp, q_in, nI_ltI, nI_leI, nI_eq, forall_eq, e_shl, e_bit, e_b0, e_b1, e_bn, e_andn, fa_or, fa_and, e_m1, e_nneg]
            repeat (first | refine And.intro (fun hh => absurd hh (by omega)) (fun _ => ?_) | refine And.intro (fun _ => ?_) (fun hh => absurd hh (by omega)) | refine And.intro (by omega) ?_)
            rw [← hl2]
            refine s_normalizes irr hV hk6 kwo hJ (by omega) (by omega) (by decide) (fun md g hm => s_stores hm (by omega) ht (fun v' hv' hfr => ?_))
            apply hQ
            exact REL.word hS0 hA0 hB0 ht (by omega) (nf_lt kwo) hl hv' hfr
        · apply hK
          intro Q hQ
          unfold wp_X11_product
          refine s_isWord hw ?_
          (first | refine br_t (by decide) ?_ | refine br_f (by decide) ?_ | refine br_t' (by decide) ?_ | refine br_f' (by decide) ?_)
          refine s_isWord ho ?_
          (first | refine br_t (by decide) ?_ | refine br_f (by decide) ?_ | refine br_t' (by decide) ?_ | refine br_f' (by decide) ?_)
          refine s_isWord ht ?_
          (first | refine br_t (by decide) ?_ | refine br_f (by decide) ?_ | refine br_t' (by decide) ?_ | refine br_f' (by decide) ?_)
          try simp (disch := omega) only [k_0, k_1, k_2, k_3, k_4, k_6, k_7, k_10, k_11, k_12, k_13, k_14, k_16, k_32, k_36, k_40, k_41, k_42, k_43, k_49, k_64, k_80, k_96, k_97, k_100, k_109, k_110, k_127, k_128, k_146, k_147, k_160, k_2304, k_4608, k_13824, nI_add, pk_mul, pk_sub, nI_clamp, q_in, nI_ltI, nI_leI, nI_eq, forall_eq, e_shl, e_bit, e_b0, e_b1, e_bn, e_andn, fa_or, fa_and, e_m1, e_nneg]
          rw [wv1.1, wv2.1]
          try simp (disch := omega) only [k_0, k_1, k_2, k_3, k_4, k_6, k_7, k_10, k_11, k_12, k_13, k_14, k_16, k_32, k_36, k_40, k_41, k_42, k_43, k_49, k_64, k_80, k_96, k_97, k_100, k_109, k_110, k_127, k_128, k_146, k_147, k_160, k_2304, k_4608, k_13824, nI_add, pk_mul, pk_sub, nI_clamp, q_in, nI_ltI, nI_leI, nI_eq, forall_eq, e_shl, e_bit, e_b0, e_b1, e_bn, e_andn, fa_or, fa_and, e_m1, e_nneg]
          refine ⟨by omega, by omega, fun q => absurd q (by omega), fun _ => ?_⟩
          first | (apply hQ; done) | (apply hQ; exact hR0)
      · refine s_word hw ?_
        (first | refine br_t (by decide) ?_ | refine br_f (by decide) ?_ | refine br_t' (by decide) ?_ | refine br_f' (by decide) ?_)
        refine s_word ho ?_
        (first | refine br_t (by decide) ?_ | refine br_f (by decide) ?_ | refine br_t' (by decide) ?_ | refine br_f' (by decide) ?_)
        refine s_wordN hx ?_
        (first | refine br_t (by decide) ?_ | refine br_f (by decide) ?_ | refine br_t' (by decide) ?_ | refine br_f' (by decide) ?_)
        apply hK
        intro Q hQ
        unfold wp_X11_product
        refine s_isWord hw ?_
        (first | refine br_t (by decide) ?_ | refine br_f (by decide) ?_ | refine br_t' (by decide) ?_ | refine br_f' (by decide) ?_)
        refine s_isWord ho ?_
        (first | refine br_t (by decide) ?_ | refine br_f (by decide) ?_ | refine br_t' (by decide) ?_ | refine br_f' (by decide) ?_)
        refine s_isWordN hx ?_
        (first | refine br_t (by decide) ?_ | refine br_f (by decide) ?_ | refine br_t' (by decide) ?_ | refine br_f' (by decide) ?_)
        first | (apply hQ; done) | (apply hQ; exact hR0)
    · refine s_word hw ?_
      (first | refine br_t (by decide) ?_ | refine br_f (by decide) ?_ | refine br_t' (by decide) ?_ | refine br_f' (by decide) ?_)
      refine s_wordN hx ?_
      (first | refine br_t (by decide) ?_ | refine br_f (by decide) ?_ | refine br_t' (by decide) ?_ | refine br_f' (by decide) ?_)
      apply hK
      intro Q hQ
      unfold wp_X11_product
      refine s_isWord hw ?_
      (first | refine br_t (by decide) ?_ | refine br_f (by decide) ?_ | refine br_t' (by decide) ?_ | refine br_f' (by decide) ?_)
      refine s_isWordN hx ?_
      (first | refine br_t (by decide) ?_ | refine br_f (by decide) ?_ | refine br_t' (by decide) ?_ | refine br_f' (by decide) ?_)
      first | (apply hQ; done) | (apply hQ; exact hR0)
  · refine s_wordN hx ?_
    (first | refine br_t (by decide) ?_ | refine br_f (by decide) ?_ | refine br_t' (by decide) ?_ | refine br_f' (by decide) ?_)
    apply hK
    intro Q hQ
    unfold wp_X11_product
    refine s_isWordN hx ?_
    (first | refine br_t (by decide) ?_ | refine br_f (by decide) ?_ | refine br_t' (by decide) ?_ | refine br_f' (by decide) ?_)
    first | (apply hQ; done) | (apply hQ; exact hR0)
theorem M_quotient {A_now_alphabet_count : Int32} {A_now_alphabet_free : Nat → Int32} {A_now_words_size : Nat → Int32} {A_now_words_letters : Nat → Nat → Int32} {A_now_recogniser_states : Int32} {A_now_recogniser_accepting : Int32} {A_now_recogniser_arrows : Nat → Int32} {A_places_letters : Int32} {A_places_size : Int32} {A_places_taken : Int32} {A_places_letterAt : Nat → Int32} {A_places_layerAt : Nat → Int32} {A_places_before : Nat → Int32} {A_places_placesOf : Nat → Int32} {B_v : Nat → Int32} {B_oneLength : Int32} {B_otherLength : Int32} {B_madeLength : Int32} {B_one : Nat → Int32} {B_other : Nat → Int32} {B_made : Nat → Int32} {B_isGone : Nat → Int32} (x1 x2 x3 : Int32) (hR : REL A_now_alphabet_count A_now_alphabet_free A_now_words_size A_now_words_letters A_now_recogniser_states A_now_recogniser_accepting A_now_recogniser_arrows B_v) {K : Int32 → (Nat → Int32) → (Nat → Nat → Int32) → Int32 → Int32 → Int32 → (Nat → Int32) → (Nat → Int32) → (Nat → Int32) → (Nat → Int32) → Prop} (hK : ∀ (r : Int32) A_now_words_size' A_now_words_letters' A_places_letters' A_places_size' A_places_taken' A_places_letterAt' A_places_layerAt' A_places_before' A_places_placesOf', (∀ Q : Int32 → Int32 → Int32 → Int32 → (Nat → Int32) → (Nat → Int32) → (Nat → Int32) → (Nat → Int32) → (Nat → Int32) → Prop, (∀ B_oneLength' B_otherLength' B_madeLength' B_v' B_one' B_other' B_made' B_isGone', REL A_now_alphabet_count A_now_alphabet_free A_now_words_size' A_now_words_letters' A_now_recogniser_states A_now_recogniser_accepting A_now_recogniser_arrows B_v' → Q r B_oneLength' B_otherLength' B_madeLength' B_v' B_one' B_other' B_made' B_isGone') → wp_X11_quotient B_oneLength B_otherLength B_madeLength B_v B_one B_other B_made B_isGone x1 x2 x3 Q) → K r A_now_words_size' A_now_words_letters' A_places_letters' A_places_size' A_places_taken' A_places_letterAt' A_places_layerAt' A_places_before' A_places_placesOf') : wp_X10_quotient A_now_alphabet_count A_now_alphabet_free A_now_words_size A_now_words_letters A_places_letters A_places_size A_places_taken A_places_letterAt A_places_layerAt A_places_before A_places_placesOf x1 x2 x3 K := by
  have hR0 := hR
  obtain ⟨k, fr, W, n, ar, ac, hS, hA, hB⟩ := hR
  have hS0 := hS
  have hA0 := hA
  have hB0 := hB
  obtain ⟨hFR, hWS, hn1, hn6, har, hacl⟩ := hS
  obtain ⟨rfl, hF, hW, rfl, rfl, hAr⟩ := hA
  obtain ⟨hk0, hV, hWV, hn0, hac0, hArV, hAr6⟩ := hB
  have hk6 := hFR.2.1
  have hk2 := hFR.1
  have irr := hFR.irr
  have sym := hFR.sym
  unfold wp_X10_quotient
  rcases in_cases x1 (n := 6) (by omega) with ⟨w, hw, rfl⟩ | hx
  · rcases in_cases x2 (n := 6) (by omega) with ⟨o, ho, rfl⟩ | hx
    · rcases in_cases x3 (n := 6) (by omega) with ⟨t, ht, rfl⟩ | hx
      · have ws1 := (hW w hw).1
        have wr1 := hW w hw
        rw [ws1] at wr1
        have wv1 := hWV w hw
        obtain ⟨l161, lk1⟩ := hWS w hw
        have lk61 : ∀ x ∈ W w, x < 6 := fun x h => Nat.lt_of_lt_of_le (lk1 x h) hk6
        have ws2 := (hW o ho).1
        have wr2 := hW o ho
        rw [ws2] at wr2
        have wv2 := hWV o ho
        obtain ⟨l162, lk2⟩ := hWS o ho
        have lk62 : ∀ x ∈ W o, x < 6 := fun x h => Nat.lt_of_lt_of_le (lk2 x h) hk6
        refine s_word hw ?_
        (first | refine br_t (by decide) ?_ | refine br_f (by decide) ?_ | refine br_t' (by decide) ?_ | refine br_f' (by decide) ?_)
        refine s_word ho ?_
        (first | refine br_t (by decide) ?_ | refine br_f (by decide) ?_ | refine br_t' (by decide) ?_ | refine br_f' (by decide) ?_)
        refine s_word ht ?_
        (first | refine br_t (by decide) ?_ | refine br_f (by decide) ?_ | refine br_t' (by decide) ?_ | refine br_f' (by decide) ?_)
        refine s_layW ho hF hk6 (hW o ho) lk2 (fun a b c d hP => ?_)
        try simp (disch := omega) only [k_0, k_1, k_2, k_3, k_4, k_6, k_7, k_10, k_11, k_12, k_13, k_14, k_16, k_32, k_36, k_40, k_41, k_42, k_43, k_49, k_64, k_80, k_96, k_97, k_100, k_109, k_110, k_127, k_128, k_146, k_147, k_160, k_2304, k_4608, k_13824, nI_add, pk_mul, pk_sub, nI_clamp, q_in, nI_ltI, nI_leI, nI_eq, forall_eq, e_shl, e_bit, e_b0, e_b1, e_bn, e_andn, fa_or, fa_and, e_m1, e_nneg]
        rw [ws1]
        refine ⟨hw, s_takeAll irr sym hP (by omega) (TK.start _) wr1 lk61 (fun r T hd hT => br_f' (by decide) ⟨ht, ?_⟩) (fun r T hd hT => br_t' (by decide) ?_)⟩
        · have hrk : ∀ x ∈ r, x < k := fun x hx => lk2 x (hT.mem hx)
          have hrl := dvd_len _ _ _ hd
          have nl := nf_len (fr := fr) hrk
          refine s_writeRest hT l162 irr sym hk6 lk2 hP (fun T2 lt' hl => ⟨ht, ?_⟩)
          rw [up_s]
          apply hK
          intro Q hQ
          unfold wp_X11_quotient
          refine s_isWord hw ?_
          (first | refine br_t (by decide) ?_ | refine br_f (by decide) ?_ | refine br_t' (by decide) ?_ | refine br_f' (by decide) ?_)
          refine s_isWord ho ?_
          (first | refine br_t (by decide) ?_ | refine br_f (by decide) ?_ | refine br_t' (by decide) ?_ | refine br_f' (by decide) ?_)
          refine s_isWord ht ?_
          (first | refine br_t (by decide) ?_ | refine br_f (by decide) ?_ | refine br_t' (by decide) ?_ | refine br_f' (by decide) ?_)
          refine s_takesOne hw wv1 (fun one h1 => s_takesOther ho wv2 (fun oth h2 => s_divides irr hV lk61 lk62 h1 h2 (by omega) (by omega) (fun r2 o2 g e h3 => ?_) (fun g e => ?_)))
          · rw [hd] at e
            cases e
            (first | refine br_t (by decide) ?_ | refine br_f (by decide) ?_ | refine br_t' (by decide) ?_ | refine br_f' (by decide) ?_)
            refine s_normalizes irr hV hk6 hrk h3 (by omega) (by omega) (by decide) (fun md g hm => s_stores hm (by omega) ht (fun v' hv' hfr => ?_))
            apply hQ
            exact REL.word hS0 hA0 hB0 ht (by omega) (nf_lt hrk) hl hv' hfr
          · rw [hd] at e; cases e
        · apply hK
          intro Q hQ
          unfold wp_X11_quotient
          refine s_isWord hw ?_
          (first | refine br_t (by decide) ?_ | refine br_f (by decide) ?_ | refine br_t' (by decide) ?_ | refine br_f' (by decide) ?_)
          refine s_isWord ho ?_
          (first | refine br_t (by decide) ?_ | refine br_f (by decide) ?_ | refine br_t' (by decide) ?_ | refine br_f' (by decide) ?_)
          refine s_isWord ht ?_
          (first | refine br_t (by decide) ?_ | refine br_f (by decide) ?_ | refine br_t' (by decide) ?_ | refine br_f' (by decide) ?_)
          refine s_takesOne hw wv1 (fun one h1 => s_takesOther ho wv2 (fun oth h2 => s_divides irr hV lk61 lk62 h1 h2 (by omega) (by omega) (fun r2 o2 g e h3 => ?_) (fun g e => ?_)))
          · rw [hd] at e; cases e
          · (first | refine br_t (by decide) ?_ | refine br_f (by decide) ?_ | refine br_t' (by decide) ?_ | refine br_f' (by decide) ?_)
            first | (apply hQ; done) | (apply hQ; exact hR0)
      · refine s_word hw ?_
        (first | refine br_t (by decide) ?_ | refine br_f (by decide) ?_ | refine br_t' (by decide) ?_ | refine br_f' (by decide) ?_)
        refine s_word ho ?_
        (first | refine br_t (by decide) ?_ | refine br_f (by decide) ?_ | refine br_t' (by decide) ?_ | refine br_f' (by decide) ?_)
        refine s_wordN hx ?_
        (first | refine br_t (by decide) ?_ | refine br_f (by decide) ?_ | refine br_t' (by decide) ?_ | refine br_f' (by decide) ?_)
        apply hK
        intro Q hQ
        unfold wp_X11_quotient
        refine s_isWord hw ?_
        (first | refine br_t (by decide) ?_ | refine br_f (by decide) ?_ | refine br_t' (by decide) ?_ | refine br_f' (by decide) ?_)
        refine s_isWord ho ?_
        (first | refine br_t (by decide) ?_ | refine br_f (by decide) ?_ | refine br_t' (by decide) ?_ | refine br_f' (by decide) ?_)
        refine s_isWordN hx ?_
        (first | refine br_t (by decide) ?_ | refine br_f (by decide) ?_ | refine br_t' (by decide) ?_ | refine br_f' (by decide) ?_)
        first | (apply hQ; done) | (apply hQ; exact hR0)
    · refine s_word hw ?_
      (first | refine br_t (by decide) ?_ | refine br_f (by decide) ?_ | refine br_t' (by decide) ?_ | refine br_f' (by decide) ?_)
      refine s_wordN hx ?_
      (first | refine br_t (by decide) ?_ | refine br_f (by decide) ?_ | refine br_t' (by decide) ?_ | refine br_f' (by decide) ?_)
      apply hK
      intro Q hQ
      unfold wp_X11_quotient
      refine s_isWord hw ?_
      (first | refine br_t (by decide) ?_ | refine br_f (by decide) ?_ | refine br_t' (by decide) ?_ | refine br_f' (by decide) ?_)
      refine s_isWordN hx ?_
      (first | refine br_t (by decide) ?_ | refine br_f (by decide) ?_ | refine br_t' (by decide) ?_ | refine br_f' (by decide) ?_)
      first | (apply hQ; done) | (apply hQ; exact hR0)
  · refine s_wordN hx ?_
    (first | refine br_t (by decide) ?_ | refine br_f (by decide) ?_ | refine br_t' (by decide) ?_ | refine br_f' (by decide) ?_)
    apply hK
    intro Q hQ
    unfold wp_X11_quotient
    refine s_isWordN hx ?_
    (first | refine br_t (by decide) ?_ | refine br_f (by decide) ?_ | refine br_t' (by decide) ?_ | refine br_f' (by decide) ?_)
    first | (apply hQ; done) | (apply hQ; exact hR0)
theorem rev_take {u : List Nat} {i : Nat} (h : i < u.length) : u.reverse.take (i + 1) = u.reverse.take i ++ [u.getD (u.length - 1 - i) 0] := by
  rw [take_snoc (by simpa using h)]
  congr 2
  rw [List.getD_eq_getElem?_getD, List.getD_eq_getElem?_getD, List.getElem?_reverse h]
theorem M_reverse {A_now_alphabet_count : Int32} {A_now_alphabet_free : Nat → Int32} {A_now_words_size : Nat → Int32} {A_now_words_letters : Nat → Nat → Int32} {A_now_recogniser_states : Int32} {A_now_recogniser_accepting : Int32} {A_now_recogniser_arrows : Nat → Int32} {A_draft_size : Int32} {A_draft_letters : Nat → Int32} {A_places_letters : Int32} {A_places_size : Int32} {A_places_taken : Int32} {A_places_letterAt : Nat → Int32} {A_places_layerAt : Nat → Int32} {A_places_before : Nat → Int32} {A_places_placesOf : Nat → Int32} {B_v : Nat → Int32} {B_oneLength : Int32} {B_madeLength : Int32} {B_one : Nat → Int32} {B_other : Nat → Int32} {B_made : Nat → Int32} {B_isGone : Nat → Int32} (x1 x2 : Int32) (hR : REL A_now_alphabet_count A_now_alphabet_free A_now_words_size A_now_words_letters A_now_recogniser_states A_now_recogniser_accepting A_now_recogniser_arrows B_v) {K : Int32 → (Nat → Int32) → (Nat → Nat → Int32) → Int32 → (Nat → Int32) → Int32 → Int32 → Int32 → (Nat → Int32) → (Nat → Int32) → (Nat → Int32) → (Nat → Int32) → Prop} (hK : ∀ (r : Int32) A_now_words_size' A_now_words_letters' A_draft_size' A_draft_letters' A_places_letters' A_places_size' A_places_taken' A_places_letterAt' A_places_layerAt' A_places_before' A_places_placesOf', (∀ Q : Int32 → Int32 → Int32 → (Nat → Int32) → (Nat → Int32) → (Nat → Int32) → (Nat → Int32) → (Nat → Int32) → Prop, (∀ B_oneLength' B_madeLength' B_v' B_one' B_other' B_made' B_isGone', REL A_now_alphabet_count A_now_alphabet_free A_now_words_size' A_now_words_letters' A_now_recogniser_states A_now_recogniser_accepting A_now_recogniser_arrows B_v' → Q r B_oneLength' B_madeLength' B_v' B_one' B_other' B_made' B_isGone') → wp_X11_reverse B_oneLength B_madeLength B_v B_one B_other B_made B_isGone x1 x2 Q) → K r A_now_words_size' A_now_words_letters' A_draft_size' A_draft_letters' A_places_letters' A_places_size' A_places_taken' A_places_letterAt' A_places_layerAt' A_places_before' A_places_placesOf') : wp_X10_reverse A_now_alphabet_count A_now_alphabet_free A_now_words_size A_now_words_letters A_draft_size A_draft_letters A_places_letters A_places_size A_places_taken A_places_letterAt A_places_layerAt A_places_before A_places_placesOf x1 x2 K := by
  have hR0 := hR
  obtain ⟨k, fr, W, n, ar, ac, hS, hA, hB⟩ := hR
  have hS0 := hS
  have hA0 := hA
  have hB0 := hB
  obtain ⟨hFR, hWS, hn1, hn6, har, hacl⟩ := hS
  obtain ⟨rfl, hF, hW, rfl, rfl, hAr⟩ := hA
  obtain ⟨hk0, hV, hWV, hn0, hac0, hArV, hAr6⟩ := hB
  have hk6 := hFR.2.1
  have hk2 := hFR.1
  have irr := hFR.irr
  have sym := hFR.sym
  unfold wp_X10_reverse
  rcases in_cases x1 (n := 6) (by omega) with ⟨w, hw, rfl⟩ | hx
  · rcases in_cases x2 (n := 6) (by omega) with ⟨t, ht, rfl⟩ | hx
    · have ws1 := (hW w hw).1
      have wr1 := hW w hw
      rw [ws1] at wr1
      have wv1 := hWV w hw
      obtain ⟨l161, lk1⟩ := hWS w hw
      have lk61 : ∀ x ∈ W w, x < 6 := fun x h => Nat.lt_of_lt_of_le (lk1 x h) hk6
      have kr : ∀ x ∈ (W w).reverse, x < k := fun x hx => lk1 x (List.mem_reverse.mp hx)
      have rl : (W w).reverse.length = (W w).length := by simp
      have nl := nf_len (fr := fr) kr
      refine s_word hw ?_
      (first | refine br_t (by decide) ?_ | refine br_f (by decide) ?_ | refine br_t' (by decide) ?_ | refine br_f' (by decide) ?_)
      refine s_word ht ?_
      (first | refine br_t (by decide) ?_ | refine br_f (by decide) ?_ | refine br_t' (by decide) ?_ | refine br_f' (by decide) ?_)
      unfold wp_X9_empty
      refine ⟨(q_in (by omega)).mpr hw, nm_e ?_⟩
      have e1 : (nI w).toNatClampNeg = w := nI_clamp (by omega)
      rw [e1, ws1]
      refine lp_X10_reverse_L41_of _ _ _ _ (fun x s l => ∃ i, i ≤ (W w).length ∧ x + 1 = nI ((W w).length - i) ∧ s = nI ((W w).reverse.take i).length ∧ WR s l ((W w).reverse.take i)) (fun x _ _ => (x + 1).toNatClampNeg) ?_ _ _ _ (⟨0, Nat.zero_le _, by rw [Nat.sub_zero]; exact Int32.sub_add_cancel _ _, rfl, rfl, by simp, fun i hi => absurd hi (Nat.not_lt_zero _)⟩)
      rintro again x s l ⟨i, hi, hx, rfl, hl⟩ hag
      unfold wp_X10_reverse_L41
      rw [e1, ws1]
      have e2 : x = nI ((W w).length - i) - 1 := by rw [← hx]; exact (Int32.add_sub_cancel _ _).symm
      have tl : ((W w).reverse.take i).length = i := by simp; omega
      by_cases hlt : i < (W w).length
      · have e3 : x = nI ((W w).length - 1 - i) := by
          rw [e2, k_1, pk_sub (by omega)]
          congr 1
          omega
        refine br_f (by rw [e3]; exact nI_pos (by omega)) ?_
        rw [e3]
        refine s_at wr1 (by omega) (s_push hl (by omega) (fun l' hl' => ?_))
        rw [← rev_take hlt] at hl' ⊢
        refine nm_e (hag _ _ _ ⟨i + 1, hlt, ?_, rfl, hl'⟩ ?_)
        · rw [show (W w).length - (i + 1) = (W w).length - 1 - i by omega]
          generalize nI ((W w).length - 1 - i) = z
          rw [Int32.add_assoc]
          exact Int32.add_zero z
        · rw [hx, nI_clamp (by omega)]
          have e4 : nI ((W w).length - 1 - i) + -1 + 1 = nI ((W w).length - 1 - i) := by
            generalize nI ((W w).length - 1 - i) = z
            rw [Int32.add_assoc]
            exact Int32.add_zero z
          rw [e4, nI_clamp (by omega)]
          omega
      · have e5 : i = (W w).length := by omega
        subst e5
        have e6 : x = -1 := by rw [e2, Nat.sub_self]; rfl
        refine br_t (by rw [e6]; decide) ?_
        rw [← rl, List.take_length] at hl ⊢
        refine s_settle irr sym ht hF hk6 hl kr (by omega) (fun lt' s1 s2 s3 a b c d hl => ?_)
        apply hK
        intro Q hQ
        unfold wp_X11_reverse
        refine s_isWord hw ?_
        (first | refine br_t (by decide) ?_ | refine br_f (by decide) ?_ | refine br_t' (by decide) ?_ | refine br_f' (by decide) ?_)
        refine s_isWord ht ?_
        (first | refine br_t (by decide) ?_ | refine br_f (by decide) ?_ | refine br_t' (by decide) ?_ | refine br_f' (by decide) ?_)
        refine s_takesOne hw wv1 (fun one h1 => ?_)
        refine for_X11_reverse_L23 _ _ _ ((W w).length) (fun i o1 => RW o1 ((W w).reverse.take i)) ?_ ?_ (0) _ _ rfl (Nat.zero_le _) (fun i hi => absurd hi (Nat.not_lt_zero _))
        · intro again i o1 hi hJ hag
          unfold wp_X11_reverse_L23
          try simp (disch := omega) only [k_0, k_1, k_2, k_3, k_4, k_6, k_7, k_10, k_11, k_12, k_13, k_14, k_16, k_32, k_36, k_40, k_41, k_42, k_43, k_49, k_64, k_80, k_96, k_97, k_100, k_109, k_110, k_127, k_128, k_146, k_147, k_160, k_2304, k_4608, k_13824, nI_add, pk_mul, pk_sub, nI_clamp, q_in, nI_ltI, nI_leI, nI_eq, forall_eq, e_shl, e_bit, e_b0, e_b1, e_bn, e_andn, fa_or, fa_and, e_m1, e_nneg]
          repeat (first | refine And.intro (fun hh => absurd hh (by omega)) (fun _ => ?_) | refine And.intro (fun _ => ?_) (fun hh => absurd hh (by omega)) | refine And.intro (by omega) ?_)
          rw [h1 _ (by omega)]
          have hp := hJ.push ((W w).getD ((W w).length - 1 - i) 0)
          rw [← rev_take hi] at hp
          refine hag _ ?_
          have e : ((W w).reverse.take i).length = i := by simp; omega
          rw [e] at hp
          exact hp
        · intro again o1 hJ
          rw [← rl, List.take_length] at hJ
          unfold wp_X11_reverse_L23
          try simp (disch := omega) only [k_0, k_1, k_2, k_3, k_4, k_6, k_7, k_10, k_11, k_12, k_13, k_14, k_16, k_32, k_36, k_40, k_41, k_42, k_43, k_49, k_64, k_80, k_96, k_97, k_100, k_109, k_110, k_127, k_128, k_146, k_147, k_160, k_2304, k_4608, k_13824, nI_add, pk_mul, pk_sub, nI_clamp, q_in, nI_ltI, nI_leI, nI_eq, forall_eq, e_shl, e_bit, e_b0, e_b1, e_bn, e_andn, fa_or, fa_and, e_m1, e_nneg]
          repeat (first | refine And.intro (fun hh => absurd hh (by omega)) (fun _ => ?_) | refine And.intro (fun _ => ?_) (fun hh => absurd hh (by omega)) | refine And.intro (by omega) ?_)
          rw [← rl]
          refine s_normalizes irr hV hk6 kr hJ (by omega) (by omega) (by decide) (fun md g hm => s_stores hm (by omega) ht (fun v' hv' hfr => ?_))
          apply hQ
          exact REL.word hS0 hA0 hB0 ht (by omega) (nf_lt kr) hl hv' hfr
    · refine s_word hw ?_
      (first | refine br_t (by decide) ?_ | refine br_f (by decide) ?_ | refine br_t' (by decide) ?_ | refine br_f' (by decide) ?_)
      refine s_wordN hx ?_
      (first | refine br_t (by decide) ?_ | refine br_f (by decide) ?_ | refine br_t' (by decide) ?_ | refine br_f' (by decide) ?_)
      apply hK
      intro Q hQ
      unfold wp_X11_reverse
      refine s_isWord hw ?_
      (first | refine br_t (by decide) ?_ | refine br_f (by decide) ?_ | refine br_t' (by decide) ?_ | refine br_f' (by decide) ?_)
      refine s_isWordN hx ?_
      (first | refine br_t (by decide) ?_ | refine br_f (by decide) ?_ | refine br_t' (by decide) ?_ | refine br_f' (by decide) ?_)
      first | (apply hQ; done) | (apply hQ; exact hR0)
  · refine s_wordN hx ?_
    (first | refine br_t (by decide) ?_ | refine br_f (by decide) ?_ | refine br_t' (by decide) ?_ | refine br_f' (by decide) ?_)
    apply hK
    intro Q hQ
    unfold wp_X11_reverse
    refine s_isWordN hx ?_
    (first | refine br_t (by decide) ?_ | refine br_f (by decide) ?_ | refine br_t' (by decide) ?_ | refine br_f' (by decide) ?_)
    first | (apply hQ; done) | (apply hQ; exact hR0)
