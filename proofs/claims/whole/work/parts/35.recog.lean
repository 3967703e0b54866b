/-! recognisers: what changes them, diamonds -/
theorem RB.upd {v v' : Nat → Int32} {k : Nat} {fr : Nat → Nat} {W : Nat → List Nat} {n : Nat} {ar : Nat → Nat → Nat} {ac n' : Nat} {ar' : Nat → Nat → Nat} {ac' : Nat} (h : RB v k fr W n ar ac) (hfr : ∀ j, j < 109 → v' j = v j) (h1 : v' 109 = nI n') (h2 : v' 146 = nI ac') (h3 : ∀ q x, q < n' → x < 6 → v' (110 + 6 * q + x) = nI (ar' q x)) (h4 : ∀ j, j < 36 → ∃ t, t < 6 ∧ v' (110 + j) = nI t) : RB v' k fr W n' ar' ac' := by
  obtain ⟨b1, b2, b3, -, -, -, -⟩ := h
  refine ⟨by rw [hfr 0 (by omega)]; exact b1, fun j hj => by rw [hfr _ (by omega)]; exact b2 j hj, fun w hw => ?_, h1, h2, h3, h4⟩
  obtain ⟨c1, c2, c3⟩ := b3 w hw
  exact ⟨by rw [hfr _ (by omega)]; exact c1, c2, fun i hi => by rw [hfr _ (by omega)]; exact c3 i hi⟩
theorem M_setStates {A_now_alphabet_count : Int32} {A_now_alphabet_free : Nat → Int32} {A_now_words_size : Nat → Int32} {A_now_words_letters : Nat → Nat → Int32} {A_now_recogniser_states : Int32} {A_now_recogniser_accepting : Int32} {A_now_recogniser_arrows : Nat → Int32} {B_v : Nat → Int32} (x1 : Int32) (hR : REL A_now_alphabet_count A_now_alphabet_free A_now_words_size A_now_words_letters A_now_recogniser_states A_now_recogniser_accepting A_now_recogniser_arrows B_v) {K : Int32 → Int32 → Int32 → (Nat → Int32) → Prop} (hK : ∀ (r : Int32) A_now_recogniser_states' A_now_recogniser_accepting' A_now_recogniser_arrows', (∀ Q : Int32 → (Nat → Int32) → Prop, (∀ B_v', REL A_now_alphabet_count A_now_alphabet_free A_now_words_size A_now_words_letters A_now_recogniser_states' A_now_recogniser_accepting' A_now_recogniser_arrows' B_v' → Q r B_v') → wp_X11_setStates B_v x1 Q) → K r A_now_recogniser_states' A_now_recogniser_accepting' A_now_recogniser_arrows') : wp_X10_setStates A_now_recogniser_states A_now_recogniser_accepting A_now_recogniser_arrows x1 K := by
  have hR0 := hR
  obtain ⟨k, fr, W, n, ar, ac, hS, hA, hB⟩ := hR
  have hS0 := hS
  have hA0 := hA
  have hB0 := hB
  obtain ⟨hFR, hWS, hn1, hn6, har, hacl⟩ := hS
  obtain ⟨rfl, hF, hW, rfl, rfl, hAr⟩ := hA
  obtain ⟨hk0, hV, hWV, hn0, hac0, hArV, hAr6⟩ := hB
  have hk6 := hFR.2.1
  have hk2 := hFR.1
  have irr := hFR.irr
  have sym := hFR.sym
  unfold wp_X10_setStates
  by_cases h1 : x1 < 1
  · refine br_t h1 ?_
    apply hK
    intro Q hQ
    unfold wp_X11_setStates
    refine s_inN (Or.inl h1) ?_
    (first | refine br_t (by decide) ?_ | refine br_f (by decide) ?_ | refine br_t' (by decide) ?_ | refine br_f' (by decide) ?_)
    first | (apply hQ; done) | (apply hQ; exact hR0)
  · refine br_f h1 ?_
    by_cases h2 : x1 ≤ 6
    · have h0 : ¬ x1 < 0 := fun h => h1 (by
        rw [fa_lt] at h ⊢
        have e0 : (0 : Int32).toInt = 0 := by decide
        have e2 : (1 : Int32).toInt = 1 := by decide
        omega)
      obtain ⟨m, hm, rfl⟩ := nI_of2 (n := 6) (by decide) h0 h2
      have hm2 : 1 ≤ m := by
        rcases Nat.lt_or_ge m 1 with q | q
        · exact absurd (nI_lt q (by decide)) h1
        · exact q
      refine br_t h2 (s_begin5 (fun a' ha' => ?_))
      apply hK
      intro Q hQ
      unfold wp_X11_setStates
      refine s_in (lo := 1) (hi := 6) hm2 hm (by decide) ?_
      (first | refine br_t (by decide) ?_ | refine br_f (by decide) ?_ | refine br_t' (by decide) ?_ | refine br_f' (by decide) ?_)
      try simp (disch := omega) only [k_0, k_1, k_2, k_3, k_4, k_6, k_7, k_10, k_11, k_12, k_13, k_14, k_16, k_32, k_36, k_40, k_41, k_42, k_43, k_49, k_64, k_80, k_96, k_97, k_100, k_109, k_110, k_127, k_128, k_146, k_147, k_160, k_2304, k_4608, k_13824, nI_add, pk_mul, pk_sub, nI_clamp, q_in, nI_ltI, nI_leI, nI_eq, forall_eq, e_shl, e_bit, e_b0, e_b1, e_bn, e_andn, fa_or, fa_and, e_m1, e_nneg]
      rw [hn0]
      refine ⟨by decide, s_beginsStates (fun v2 c1 c2 c3 c4 => ?_)⟩
      apply hQ
      refine ⟨k, fr, W, m, fun q _ => q, 0, ⟨hFR, hWS, hm2, hm, fun q x hq _ => hq, Nat.two_pow_pos m⟩, ⟨rfl, hF, hW, rfl, rfl, fun q x hq hx => ha' q x (by omega) hx⟩, hB0.upd c4 c1 c2 (fun q x hq hx => c3 q x (by omega) hx) (fun j hj => ?_)⟩
      have := c3 (j / 6) (j % 6) (by omega) (by omega)
      rw [show 110 + 6 * (j / 6) + j % 6 = 110 + j by omega] at this
      exact ⟨j / 6, by omega, this⟩
    · refine br_f h2 ?_
      apply hK
      intro Q hQ
      unfold wp_X11_setStates
      refine s_inN (Or.inr (fa_of_nle h2)) ?_
      (first | refine br_t (by decide) ?_ | refine br_f (by decide) ?_ | refine br_t' (by decide) ?_ | refine br_f' (by decide) ?_)
      first | (apply hQ; done) | (apply hQ; exact hR0)
theorem s_lead {arr : Nat → Int32} {n : Nat} (hn : n ≤ 6) {q x t : Nat} (hq : q < n) (hx : x < 6) (ht : t < n) {K : (Nat → Int32) → Prop} (hK : K (upd arr (q * 6 + x) (nI t))) : wp_X5_lead (nI n) arr (nI q) (nI x) (nI t) K := by
  unfold wp_X5_lead
  refine s_has5 hn hq (br_f (by decide) ?_)
  try simp (disch := omega) only [k_0, k_1, k_2, k_3, k_4, k_6, k_7, k_10, k_11, k_12, k_13, k_14, k_16, k_32, k_36, k_40, k_41, k_42, k_43, k_49, k_64, k_80, k_96, k_97, k_100, k_109, k_110, k_127, k_128, k_146, k_147, k_160, k_2304, k_4608, k_13824, nI_add, pk_mul, pk_sub, nI_clamp, q_in, nI_ltI, nI_leI, nI_eq, forall_eq, e_shl, e_bit, e_b0, e_b1, e_bn, e_andn, fa_or, fa_and, e_m1, e_nneg]
  repeat (first | refine And.intro (fun hh => absurd hh (by omega)) (fun _ => ?_) | refine And.intro (fun _ => ?_) (fun hh => absurd hh (by omega)) | refine And.intro (by omega) ?_)
  refine s_has5 hn ht (br_f (by decide) ⟨by omega, hK⟩)
theorem M_setArrow {A_now_alphabet_count : Int32} {A_now_alphabet_free : Nat → Int32} {A_now_words_size : Nat → Int32} {A_now_words_letters : Nat → Nat → Int32} {A_now_recogniser_states : Int32} {A_now_recogniser_accepting : Int32} {A_now_recogniser_arrows : Nat → Int32} {B_v : Nat → Int32} (x1 x2 x3 : Int32) (hR : REL A_now_alphabet_count A_now_alphabet_free A_now_words_size A_now_words_letters A_now_recogniser_states A_now_recogniser_accepting A_now_recogniser_arrows B_v) {K : Int32 → (Nat → Int32) → Prop} (hK : ∀ (r : Int32) A_now_recogniser_arrows', (∀ Q : Int32 → (Nat → Int32) → Prop, (∀ B_v', REL A_now_alphabet_count A_now_alphabet_free A_now_words_size A_now_words_letters A_now_recogniser_states A_now_recogniser_accepting A_now_recogniser_arrows' B_v' → Q r B_v') → wp_X11_setArrow B_v x1 x2 x3 Q) → K r A_now_recogniser_arrows') : wp_X10_setArrow A_now_alphabet_count A_now_recogniser_states A_now_recogniser_arrows x1 x2 x3 K := by
  have hR0 := hR
  obtain ⟨k, fr, W, n, ar, ac, hS, hA, hB⟩ := hR
  have hS0 := hS
  have hA0 := hA
  have hB0 := hB
  obtain ⟨hFR, hWS, hn1, hn6, har, hacl⟩ := hS
  obtain ⟨rfl, hF, hW, rfl, rfl, hAr⟩ := hA
  obtain ⟨hk0, hV, hWV, hn0, hac0, hArV, hAr6⟩ := hB
  have hk6 := hFR.2.1
  have hk2 := hFR.1
  have irr := hFR.irr
  have sym := hFR.sym
  unfold wp_X10_setArrow
  rcases in_cases x1 (n := n) (by omega) with ⟨q, hq, rfl⟩ | hx
  · rcases in_cases x2 (n := k) (by omega) with ⟨x, hx, rfl⟩ | hx
    · rcases in_cases x3 (n := n) (by omega) with ⟨t, ht, rfl⟩ | hx3
      · refine s_has5 hn6 hq ?_
        (first | refine br_t (by decide) ?_ | refine br_f (by decide) ?_ | refine br_t' (by decide) ?_ | refine br_f' (by decide) ?_)
        refine s_has hk6 hx ?_
        (first | refine br_t (by decide) ?_ | refine br_f (by decide) ?_ | refine br_t' (by decide) ?_ | refine br_f' (by decide) ?_)
        refine s_has5 hn6 ht ?_
        (first | refine br_t (by decide) ?_ | refine br_f (by decide) ?_ | refine br_t' (by decide) ?_ | refine br_f' (by decide) ?_)
        refine s_step hn6 hAr hq (by omega) (s_lead hn6 hq (by omega) ht ?_)
        apply hK
        intro Q hQ
        unfold wp_X11_setArrow
        refine s_isState hn0 hn6 hq ?_
        (first | refine br_t (by decide) ?_ | refine br_f (by decide) ?_ | refine br_t' (by decide) ?_ | refine br_f' (by decide) ?_)
        refine s_isLetter hk0 hk6 hx ?_
        (first | refine br_t (by decide) ?_ | refine br_f (by decide) ?_ | refine br_t' (by decide) ?_ | refine br_f' (by decide) ?_)
        refine s_isState hn0 hn6 ht ?_
        (first | refine br_t (by decide) ?_ | refine br_f (by decide) ?_ | refine br_t' (by decide) ?_ | refine br_f' (by decide) ?_)
        try simp (disch := omega) only [k_0, k_1, k_2, k_3, k_4, k_6, k_7, k_10, k_11, k_12, k_13, k_14, k_16, k_32, k_36, k_40, k_41, k_42, k_43, k_49, k_64, k_80, k_96, k_97, k_100, k_109, k_110, k_127, k_128, k_146, k_147, k_160, k_2304, k_4608, k_13824, nI_add, pk_mul, pk_sub, nI_clamp, q_in, nI_ltI, nI_leI, nI_eq, forall_eq, e_shl, e_bit, e_b0, e_b1, e_bn, e_andn, fa_or, fa_and, e_m1, e_nneg]
        rw [hArV q x hq (by omega)]
        refine ⟨by omega, by omega, ?_⟩
        apply hQ
        refine ⟨k, fr, W, n, fun q' x' => if q' = q ∧ x' = x then t else ar q' x', ac, ⟨hFR, hWS, hn1, hn6, fun q' x' hq' hx' => ?_, hacl⟩, ⟨rfl, hF, hW, rfl, rfl, fun q' x' hq' hx' => ?_⟩, hB0.upd (fun j hj => pk_un (by omega)) (by rw [pk_un (by omega)]; exact hn0) (by rw [pk_un (by omega)]; exact hac0) (fun q' x' hq' hx' => ?_) (fun j hj => ?_)⟩
        · show (if q' = q ∧ x' = x then t else ar q' x') < n
          split
          · exact ht
          · exact har q' x' hq' hx'
        · show upd _ _ _ _ = nI (if q' = q ∧ x' = x then t else ar q' x')
          by_cases e : q' = q ∧ x' = x
          · rw [if_pos e, e.1, e.2, pk_us]
          · rw [if_neg e, pk_un (by omega)]; exact hAr q' x' hq' hx'
        · show upd _ _ _ _ = nI (if q' = q ∧ x' = x then t else ar q' x')
          by_cases e : q' = q ∧ x' = x
          · rw [if_pos e, e.1, e.2, pk_us]
          · rw [if_neg e, pk_un (by omega)]; exact hArV q' x' hq' hx'
        · by_cases e : 110 + j = 110 + 6 * q + x
          · exact ⟨t, by omega, by rw [e, pk_us]⟩
          · obtain ⟨t', h1, h2⟩ := hAr6 j hj
            exact ⟨t', h1, by rw [pk_un e]; exact h2⟩
      · refine s_has5 hn6 hq ?_
        (first | refine br_t (by decide) ?_ | refine br_f (by decide) ?_ | refine br_t' (by decide) ?_ | refine br_f' (by decide) ?_)
        refine s_has hk6 hx ?_
        (first | refine br_t (by decide) ?_ | refine br_f (by decide) ?_ | refine br_t' (by decide) ?_ | refine br_f' (by decide) ?_)
        refine s_has5N hn6 hx3 ?_
        (first | refine br_t (by decide) ?_ | refine br_f (by decide) ?_ | refine br_t' (by decide) ?_ | refine br_f' (by decide) ?_)
        apply hK
        intro Q hQ
        unfold wp_X11_setArrow
        refine s_isState hn0 hn6 hq ?_
        (first | refine br_t (by decide) ?_ | refine br_f (by decide) ?_ | refine br_t' (by decide) ?_ | refine br_f' (by decide) ?_)
        refine s_isLetter hk0 hk6 hx ?_
        (first | refine br_t (by decide) ?_ | refine br_f (by decide) ?_ | refine br_t' (by decide) ?_ | refine br_f' (by decide) ?_)
        refine s_isStateN hn0 hn1 hn6 hx3 ?_
        (first | refine br_t (by decide) ?_ | refine br_f (by decide) ?_ | refine br_t' (by decide) ?_ | refine br_f' (by decide) ?_)
        first | (apply hQ; done) | (apply hQ; exact hR0)
    · refine s_has5 hn6 hq ?_
      (first | refine br_t (by decide) ?_ | refine br_f (by decide) ?_ | refine br_t' (by decide) ?_ | refine br_f' (by decide) ?_)
      refine s_hasN hk6 hx ?_
      (first | refine br_t (by decide) ?_ | refine br_f (by decide) ?_ | refine br_t' (by decide) ?_ | refine br_f' (by decide) ?_)
      apply hK
      intro Q hQ
      unfold wp_X11_setArrow
      refine s_isState hn0 hn6 hq ?_
      (first | refine br_t (by decide) ?_ | refine br_f (by decide) ?_ | refine br_t' (by decide) ?_ | refine br_f' (by decide) ?_)
      refine s_isLetterN hk0 (by omega) hk6 hx ?_
      (first | refine br_t (by decide) ?_ | refine br_f (by decide) ?_ | refine br_t' (by decide) ?_ | refine br_f' (by decide) ?_)
      first | (apply hQ; done) | (apply hQ; exact hR0)
  · refine s_has5N hn6 hx ?_
    (first | refine br_t (by decide) ?_ | refine br_f (by decide) ?_ | refine br_t' (by decide) ?_ | refine br_f' (by decide) ?_)
    apply hK
    intro Q hQ
    unfold wp_X11_setArrow
    refine s_isStateN hn0 hn1 hn6 hx ?_
    (first | refine br_t (by decide) ?_ | refine br_f (by decide) ?_ | refine br_t' (by decide) ?_ | refine br_f' (by decide) ?_)
    first | (apply hQ; done) | (apply hQ; exact hR0)
theorem M_setAccepting {A_now_alphabet_count : Int32} {A_now_alphabet_free : Nat → Int32} {A_now_words_size : Nat → Int32} {A_now_words_letters : Nat → Nat → Int32} {A_now_recogniser_states : Int32} {A_now_recogniser_accepting : Int32} {A_now_recogniser_arrows : Nat → Int32} {B_v : Nat → Int32} (x1 x2 : Int32) (hb : ∃ b, x2 = bI b) (hR : REL A_now_alphabet_count A_now_alphabet_free A_now_words_size A_now_words_letters A_now_recogniser_states A_now_recogniser_accepting A_now_recogniser_arrows B_v) {K : Int32 → Int32 → Prop} (hK : ∀ (r : Int32) A_now_recogniser_accepting', (∀ Q : Int32 → (Nat → Int32) → Prop, (∀ B_v', REL A_now_alphabet_count A_now_alphabet_free A_now_words_size A_now_words_letters A_now_recogniser_states A_now_recogniser_accepting' A_now_recogniser_arrows B_v' → Q r B_v') → wp_X11_setAccepting B_v x1 x2 Q) → K r A_now_recogniser_accepting') : wp_X10_setAccepting A_now_recogniser_states A_now_recogniser_accepting x1 x2 K := by
  have hR0 := hR
  obtain ⟨k, fr, W, n, ar, ac, hS, hA, hB⟩ := hR
  have hS0 := hS
  have hA0 := hA
  have hB0 := hB
  obtain ⟨hFR, hWS, hn1, hn6, har, hacl⟩ := hS
  obtain ⟨rfl, hF, hW, rfl, rfl, hAr⟩ := hA
  obtain ⟨hk0, hV, hWV, hn0, hac0, hArV, hAr6⟩ := hB
  have hk6 := hFR.2.1
  have hk2 := hFR.1
  have irr := hFR.irr
  have sym := hFR.sym
  unfold wp_X10_setAccepting
  obtain ⟨on, rfl⟩ := hb
  rcases in_cases x1 (n := n) (by omega) with ⟨q, hq, rfl⟩ | hx
  · have key : ∀ (m : Nat), m < 2 ^ n → REL (nI k) A_now_alphabet_free A_now_words_size A_now_words_letters (nI n) (nI m) A_now_recogniser_arrows (upd B_v 146 (nI m)) := by
      intro m hm
      refine ⟨k, fr, W, n, ar, m, ⟨hFR, hWS, hn1, hn6, har, hm⟩, ⟨rfl, hF, hW, rfl, rfl, hAr⟩, hB0.upd (fun j hj => pk_un (by omega)) (by rw [pk_un (by omega)]; exact hn0) pk_us (fun q' x' hq' hx' => by rw [pk_un (by omega)]; exact hArV q' x' hq' hx') (fun j hj => ?_)⟩
      obtain ⟨t', h1, h2⟩ := hAr6 j hj
      exact ⟨t', h1, by rw [pk_un (by omega)]; exact h2⟩
    refine s_has5 hn6 hq ?_
    (first | refine br_t (by decide) ?_ | refine br_f (by decide) ?_ | refine br_t' (by decide) ?_ | refine br_f' (by decide) ?_)
    refine s_accepts hn6 (by omega) ?_
    rw [decide_eq_true hq, Bool.true_and]
    unfold wp_X5_mark
    refine s_has5 hn6 hq ?_
    (first | refine br_t (by decide) ?_ | refine br_f (by decide) ?_ | refine br_t' (by decide) ?_ | refine br_f' (by decide) ?_)
    try simp (disch := omega) only [k_0, k_1, k_2, k_3, k_4, k_6, k_7, k_10, k_11, k_12, k_13, k_14, k_16, k_32, k_36, k_40, k_41, k_42, k_43, k_49, k_64, k_80, k_96, k_97, k_100, k_109, k_110, k_127, k_128, k_146, k_147, k_160, k_2304, k_4608, k_13824, nI_add, pk_mul, pk_sub, nI_clamp, q_in, nI_ltI, nI_leI, nI_eq, forall_eq, e_shl, e_bit, e_b0, e_b1, e_bn, e_andn, fa_or, fa_and, e_m1, e_nneg]
    cases on with
    | true =>
      refine br_f (by decide) (s_num _ ?_)
      apply hK
      intro Q hQ
      unfold wp_X11_setAccepting
      refine s_isState hn0 hn6 hq ?_
      (first | refine br_t (by decide) ?_ | refine br_f (by decide) ?_ | refine br_t' (by decide) ?_ | refine br_f' (by decide) ?_)
      try simp (disch := omega) only [k_0, k_1, k_2, k_3, k_4, k_6, k_7, k_10, k_11, k_12, k_13, k_14, k_16, k_32, k_36, k_40, k_41, k_42, k_43, k_49, k_64, k_80, k_96, k_97, k_100, k_109, k_110, k_127, k_128, k_146, k_147, k_160, k_2304, k_4608, k_13824, nI_add, pk_mul, pk_sub, nI_clamp, q_in, nI_ltI, nI_leI, nI_eq, forall_eq, e_shl, e_bit, e_b0, e_b1, e_bn, e_andn, fa_or, fa_and, e_m1, e_nneg]
      rw [hac0]
      try simp (disch := omega) only [k_0, k_1, k_2, k_3, k_4, k_6, k_7, k_10, k_11, k_12, k_13, k_14, k_16, k_32, k_36, k_40, k_41, k_42, k_43, k_49, k_64, k_80, k_96, k_97, k_100, k_109, k_110, k_127, k_128, k_146, k_147, k_160, k_2304, k_4608, k_13824, nI_add, pk_mul, pk_sub, nI_clamp, q_in, nI_ltI, nI_leI, nI_eq, forall_eq, e_shl, e_bit, e_b0, e_b1, e_bn, e_andn, fa_or, fa_and, e_m1, e_nneg]
      refine ⟨by decide, br_f (by decide) ⟨by decide, by decide, ?_⟩⟩
      rw [bI_nI] at hQ
      apply hQ
      exact key _ (or2_lt hacl hq)
    | false =>
      refine br_t (by decide) (s_num _ ?_)
      apply hK
      intro Q hQ
      unfold wp_X11_setAccepting
      refine s_isState hn0 hn6 hq ?_
      (first | refine br_t (by decide) ?_ | refine br_f (by decide) ?_ | refine br_t' (by decide) ?_ | refine br_f' (by decide) ?_)
      try simp (disch := omega) only [k_0, k_1, k_2, k_3, k_4, k_6, k_7, k_10, k_11, k_12, k_13, k_14, k_16, k_32, k_36, k_40, k_41, k_42, k_43, k_49, k_64, k_80, k_96, k_97, k_100, k_109, k_110, k_127, k_128, k_146, k_147, k_160, k_2304, k_4608, k_13824, nI_add, pk_mul, pk_sub, nI_clamp, q_in, nI_ltI, nI_leI, nI_eq, forall_eq, e_shl, e_bit, e_b0, e_b1, e_bn, e_andn, fa_or, fa_and, e_m1, e_nneg]
      rw [hac0]
      try simp (disch := omega) only [k_0, k_1, k_2, k_3, k_4, k_6, k_7, k_10, k_11, k_12, k_13, k_14, k_16, k_32, k_36, k_40, k_41, k_42, k_43, k_49, k_64, k_80, k_96, k_97, k_100, k_109, k_110, k_127, k_128, k_146, k_147, k_160, k_2304, k_4608, k_13824, nI_add, pk_mul, pk_sub, nI_clamp, q_in, nI_ltI, nI_leI, nI_eq, forall_eq, e_shl, e_bit, e_b0, e_b1, e_bn, e_andn, fa_or, fa_and, e_m1, e_nneg]
      refine ⟨by decide, br_t (by decide) ⟨by decide, by decide, ?_⟩⟩
      rw [bI_nI] at hQ
      apply hQ
      exact key _ (andn_lt hacl)
  · refine s_has5N hn6 hx ?_
    (first | refine br_t (by decide) ?_ | refine br_f (by decide) ?_ | refine br_t' (by decide) ?_ | refine br_f' (by decide) ?_)
    apply hK
    intro Q hQ
    unfold wp_X11_setAccepting
    refine s_isStateN hn0 hn1 hn6 hx ?_
    (first | refine br_t (by decide) ?_ | refine br_f (by decide) ?_ | refine br_t' (by decide) ?_ | refine br_f' (by decide) ?_)
    first | (apply hQ; done) | (apply hQ; exact hR0)
/-! the first diamond that does not commute -/
def BD (fr : Nat → Nat) (ar : Nat → Nat → Nat) (q x y : Nat) : Prop := ind fr x y = true ∧ ar (ar q x) y ≠ ar (ar q y) x
def ER (fr : Nat → Nat) (k n : Nat) (ar : Nat → Nat → Nat) (q x y : Nat) : Prop := ∀ q' x' y', q' < n → x' < y' → y' < k → (q' < q ∨ (q' = q ∧ (x' < x ∨ (x' = x ∧ y' < y)))) → ¬ BD fr ar q' x' y'
def FD (fr : Nat → Nat) (k n : Nat) (ar : Nat → Nat → Nat) (q x y : Nat) : Prop := q < n ∧ x < y ∧ y < k ∧ BD fr ar q x y ∧ ER fr k n ar q x y
theorem FD.one {fr : Nat → Nat} {k n : Nat} {ar : Nat → Nat → Nat} {q x y q' x' y' : Nat} (h : FD fr k n ar q x y) (h' : FD fr k n ar q' x' y') : q = q' ∧ x = x' ∧ y = y' := by
  obtain ⟨a1, a2, a3, a4, a5⟩ := h
  obtain ⟨b1, b2, b3, b4, b5⟩ := h'
  apply Classical.byContradiction
  intro hne
  by_cases c : q < q' ∨ (q = q' ∧ (x < x' ∨ (x = x' ∧ y < y')))
  · exact b5 q x y a1 a2 a3 c a4
  · exact a5 q' x' y' b1 b2 b3 (by omega) b4
theorem s_stepTwice {arr : Nat → Int32} {n : Nat} {ar : Nat → Nat → Nat} (hn : n ≤ 6) (hA : ∀ q x, q < n → x < 6 → arr (q * 6 + x) = nI (ar q x)) (har : ∀ q x, q < n → x < 6 → ar q x < n) {q x y : Nat} (hq : q < n) (hx : x < 6) (hy : y < 6) {K : Int32 → Prop} (hK : K (nI (ar (ar q x) y))) : wp_X5_stepTwice (nI n) arr (nI q) (nI x) (nI y) K := by
  unfold wp_X5_stepTwice
  exact s_step hn hA hq hx (s_step hn hA (har q x hq hx) hy hK)
theorem s_findBroken {arr free : Nat → Int32} {fr : Nat → Nat} {k n : Nat} {ar : Nat → Nat → Nat} (hf : FA free fr) (hk : k ≤ 6) (hn : n ≤ 6) (hA : ∀ q x, q < n → x < 6 → arr (q * 6 + x) = nI (ar q x)) (har : ∀ q x, q < n → x < 6 → ar q x < n) {K : Int32 → Prop} (h1 : ∀ q x y, FD fr k n ar q x y → K (nI (100 * q + 10 * x + y))) (h0 : ER fr k n ar n 0 0 → K (-5)) : wp_X5_findBroken (nI n) arr (nI k) free K := by
  unfold wp_X5_findBroken
  refine for_X5_findBroken_L2 _ _ _ _ _ _ (n) (fun q => ER fr k n ar q 0 0) ?_ ?_ (0) _ rfl (Nat.zero_le _) (fun q' x' y' _ _ _ h => by omega)
  · intro again q hq hJ hag
    unfold wp_X5_findBroken_L2
    try simp (disch := omega) only [k_0, k_1, k_2, k_3, k_4, k_6, k_7, k_10, k_11, k_12, k_13, k_14, k_16, k_32, k_36, k_40, k_41, k_42, k_43, k_49, k_64, k_80, k_96, k_97, k_100, k_109, k_110, k_127, k_128, k_146, k_147, k_160, k_2304, k_4608, k_13824, nI_add, pk_mul, pk_sub, nI_clamp, q_in, nI_ltI, nI_leI, nI_eq, forall_eq, e_shl, e_bit, e_b0, e_b1, e_bn, e_andn, fa_or, fa_and, e_m1, e_nneg]
    repeat (first | refine And.intro (fun hh => absurd hh (by omega)) (fun _ => ?_) | refine And.intro (fun _ => ?_) (fun hh => absurd hh (by omega)) | refine And.intro (by omega) ?_)
    refine for_X5_findBroken_L12 _ _ _ _ _ _ _ (k) (fun x => ER fr k n ar q x 0) ?_ ?_ (0) _ rfl (Nat.zero_le _) (hJ)
    · intro again2 x hx hJ2 hag2
      unfold wp_X5_findBroken_L12
      try simp (disch := omega) only [k_0, k_1, k_2, k_3, k_4, k_6, k_7, k_10, k_11, k_12, k_13, k_14, k_16, k_32, k_36, k_40, k_41, k_42, k_43, k_49, k_64, k_80, k_96, k_97, k_100, k_109, k_110, k_127, k_128, k_146, k_147, k_160, k_2304, k_4608, k_13824, nI_add, pk_mul, pk_sub, nI_clamp, q_in, nI_ltI, nI_leI, nI_eq, forall_eq, e_shl, e_bit, e_b0, e_b1, e_bn, e_andn, fa_or, fa_and, e_m1, e_nneg]
      repeat (first | refine And.intro (fun hh => absurd hh (by omega)) (fun _ => ?_) | refine And.intro (fun _ => ?_) (fun hh => absurd hh (by omega)) | refine And.intro (by omega) ?_)
      refine for_X5_findBroken_L25 _ _ _ _ _ _ _ _ (k) (fun y => x < y ∧ ER fr k n ar q x y) ?_ ?_ (x + 1) _ rfl (by omega) (⟨by omega, fun q' x' y' g1 g2 g3 g4 => hJ2 q' x' y' g1 g2 g3 (by omega)⟩)
      · rintro again3 y hy ⟨hxy, hJ3⟩ hag3
        have next : ¬ BD fr ar q x y → again3 (nI (y + 1)) := fun hno => hag3 ⟨by omega, fun q' x' y' g1 g2 g3 g4 => by
          by_cases e : q' = q ∧ x' = x ∧ y' = y
          · obtain ⟨rfl, rfl, rfl⟩ := e; exact hno
          · exact hJ3 q' x' y' g1 g2 g3 (by omega)⟩
        have a1 := har q x hq (by omega)
        have a2 := har q y hq (by omega)
        have a3 := har _ y a1 (by omega)
        have a4 := har _ x a2 (by omega)
        unfold wp_X5_findBroken_L25
        try simp (disch := omega) only [k_0, k_1, k_2, k_3, k_4, k_6, k_7, k_10, k_11, k_12, k_13, k_14, k_16, k_32, k_36, k_40, k_41, k_42, k_43, k_49, k_64, k_80, k_96, k_97, k_100, k_109, k_110, k_127, k_128, k_146, k_147, k_160, k_2304, k_4608, k_13824, nI_add, pk_mul, pk_sub, nI_clamp, q_in, nI_ltI, nI_leI, nI_eq, forall_eq, e_shl, e_bit, e_b0, e_b1, e_bn, e_andn, fa_or, fa_and, e_m1, e_nneg]
        repeat (first | refine And.intro (fun hh => absurd hh (by omega)) (fun _ => ?_) | refine And.intro (fun _ => ?_) (fun hh => absurd hh (by omega)) | refine And.intro (by omega) ?_)
        refine s_areFree hf hk (by omega) hy ?_
        cases hi : ind fr x y with
        | false => exact br_t (by decide) (next (fun hB => by rw [hB.1] at hi; cases hi))
        | true =>
          refine br_f (by decide) (s_stepTwice hn hA har hq (by omega) (by omega) (s_stepTwice hn hA har hq (by omega) (by omega) ?_))
          try simp (disch := omega) only [k_0, k_1, k_2, k_3, k_4, k_6, k_7, k_10, k_11, k_12, k_13, k_14, k_16, k_32, k_36, k_40, k_41, k_42, k_43, k_49, k_64, k_80, k_96, k_97, k_100, k_109, k_110, k_127, k_128, k_146, k_147, k_160, k_2304, k_4608, k_13824, nI_add, pk_mul, pk_sub, nI_clamp, q_in, nI_ltI, nI_leI, nI_eq, forall_eq, e_shl, e_bit, e_b0, e_b1, e_bn, e_andn, fa_or, fa_and, e_m1, e_nneg]
          refine ⟨fun e => next (fun hB => hB.2 e), fun e => ?_⟩
          exact h1 q x y ⟨hq, hxy, hy, ⟨hi, e⟩, hJ3⟩
      · rintro again3 ⟨hxy, hJ3⟩
        unfold wp_X5_findBroken_L25
        try simp (disch := omega) only [k_0, k_1, k_2, k_3, k_4, k_6, k_7, k_10, k_11, k_12, k_13, k_14, k_16, k_32, k_36, k_40, k_41, k_42, k_43, k_49, k_64, k_80, k_96, k_97, k_100, k_109, k_110, k_127, k_128, k_146, k_147, k_160, k_2304, k_4608, k_13824, nI_add, pk_mul, pk_sub, nI_clamp, q_in, nI_ltI, nI_leI, nI_eq, forall_eq, e_shl, e_bit, e_b0, e_b1, e_bn, e_andn, fa_or, fa_and, e_m1, e_nneg]
        repeat (first | refine And.intro (fun hh => absurd hh (by omega)) (fun _ => ?_) | refine And.intro (fun _ => ?_) (fun hh => absurd hh (by omega)) | refine And.intro (by omega) ?_)
        exact hag2 (fun q' x' y' g1 g2 g3 g4 => hJ3 q' x' y' g1 g2 g3 (by omega))
    · intro again2 hJ2
      unfold wp_X5_findBroken_L12
      try simp (disch := omega) only [k_0, k_1, k_2, k_3, k_4, k_6, k_7, k_10, k_11, k_12, k_13, k_14, k_16, k_32, k_36, k_40, k_41, k_42, k_43, k_49, k_64, k_80, k_96, k_97, k_100, k_109, k_110, k_127, k_128, k_146, k_147, k_160, k_2304, k_4608, k_13824, nI_add, pk_mul, pk_sub, nI_clamp, q_in, nI_ltI, nI_leI, nI_eq, forall_eq, e_shl, e_bit, e_b0, e_b1, e_bn, e_andn, fa_or, fa_and, e_m1, e_nneg]
      repeat (first | refine And.intro (fun hh => absurd hh (by omega)) (fun _ => ?_) | refine And.intro (fun _ => ?_) (fun hh => absurd hh (by omega)) | refine And.intro (by omega) ?_)
      exact hag (fun q' x' y' g1 g2 g3 g4 => hJ2 q' x' y' g1 g2 g3 (by omega))
  · intro again hJ
    unfold wp_X5_findBroken_L2
    try simp (disch := omega) only [k_0, k_1, k_2, k_3, k_4, k_6, k_7, k_10, k_11, k_12, k_13, k_14, k_16, k_32, k_36, k_40, k_41, k_42, k_43, k_49, k_64, k_80, k_96, k_97, k_100, k_109, k_110, k_127, k_128, k_146, k_147, k_160, k_2304, k_4608, k_13824, nI_add, pk_mul, pk_sub, nI_clamp, q_in, nI_ltI, nI_leI, nI_eq, forall_eq, e_shl, e_bit, e_b0, e_b1, e_bn, e_andn, fa_or, fa_and, e_m1, e_nneg]
    repeat (first | refine And.intro (fun hh => absurd hh (by omega)) (fun _ => ?_) | refine And.intro (fun _ => ?_) (fun hh => absurd hh (by omega)) | refine And.intro (by omega) ?_)
    exact h0 hJ
theorem s_arrow {v : Nat → Int32} {n : Nat} {ar : Nat → Nat → Nat} (hn : n ≤ 6) (hA : ∀ q x, q < n → x < 6 → v (110 + 6 * q + x) = nI (ar q x)) {q x : Nat} (hq : q < n) (hx : x < 6) {K : Int32 → Prop} (hK : K (nI (ar q x))) : wp_X11_arrow v (nI q) (nI x) K := by
  unfold wp_X11_arrow
  try simp (disch := omega) only [k_0, k_1, k_2, k_3, k_4, k_6, k_7, k_10, k_11, k_12, k_13, k_14, k_16, k_32, k_36, k_40, k_41, k_42, k_43, k_49, k_64, k_80, k_96, k_97, k_100, k_109, k_110, k_127, k_128, k_146, k_147, k_160, k_2304, k_4608, k_13824, nI_add, pk_mul, pk_sub, nI_clamp, q_in, nI_ltI, nI_leI, nI_eq, forall_eq, e_shl, e_bit, e_b0, e_b1, e_bn, e_andn, fa_or, fa_and, e_m1, e_nneg]
  repeat (first | refine And.intro (fun hh => absurd hh (by omega)) (fun _ => ?_) | refine And.intro (fun _ => ?_) (fun hh => absurd hh (by omega)) | refine And.intro (by omega) ?_)
  rw [hA q x hq hx]
  exact hK
theorem s_brokenR {v : Nat → Int32} {fr : Nat → Nat} {k n : Nat} {ar : Nat → Nat → Nat} (hv0 : v 0 = nI k) (hn0 : v 109 = nI n) (hf : FV v fr) (hk : k ≤ 6) (hn : n ≤ 6) (hA : ∀ q x, q < n → x < 6 → v (110 + 6 * q + x) = nI (ar q x)) (har : ∀ q x, q < n → x < 6 → ar q x < n) {K : Int32 → Prop} (h1 : ∀ q x y, FD fr k n ar q x y → K (nI (100 * q + 10 * x + y))) (h0 : ER fr k n ar n 0 0 → K (-5)) : wp_X11_brokenDiamond v K := by
  unfold wp_X11_brokenDiamond
  refine for_X11_brokenDiamond_L2 _ _ _ (n) (fun q => ER fr k n ar q 0 0) ?_ ?_ (0) _ rfl (Nat.zero_le _) (fun q' x' y' _ _ _ h => by omega)
  · intro again q hq hJ hag
    unfold wp_X11_brokenDiamond_L2
    try simp (disch := omega) only [k_0, k_1, k_2, k_3, k_4, k_6, k_7, k_10, k_11, k_12, k_13, k_14, k_16, k_32, k_36, k_40, k_41, k_42, k_43, k_49, k_64, k_80, k_96, k_97, k_100, k_109, k_110, k_127, k_128, k_146, k_147, k_160, k_2304, k_4608, k_13824, nI_add, pk_mul, pk_sub, nI_clamp, q_in, nI_ltI, nI_leI, nI_eq, forall_eq, e_shl, e_bit, e_b0, e_b1, e_bn, e_andn, fa_or, fa_and, e_m1, e_nneg]
    rw [hn0]
    try simp (disch := omega) only [k_0, k_1, k_2, k_3, k_4, k_6, k_7, k_10, k_11, k_12, k_13, k_14, k_16, k_32, k_36, k_40, k_41, k_42, k_43, k_49, k_64, k_80, k_96, k_97, k_100, k_109, k_110, k_127, k_128, k_146, k_147, k_160, k_2304, k_4608, k_13824, nI_add, pk_mul, pk_sub, nI_clamp, q_in, nI_ltI, nI_leI, nI_eq, forall_eq, e_shl, e_bit, e_b0, e_b1, e_bn, e_andn, fa_or, fa_and, e_m1, e_nneg]
    repeat (first | refine And.intro (fun hh => absurd hh (by omega)) (fun _ => ?_) | refine And.intro (fun _ => ?_) (fun hh => absurd hh (by omega)) | refine And.intro (by omega) ?_)
    refine for_X11_brokenDiamond_L15 _ _ _ _ (k) (fun x => ER fr k n ar q x 0) ?_ ?_ (0) _ rfl (Nat.zero_le _) (hJ)
    · intro again2 x hx hJ2 hag2
      unfold wp_X11_brokenDiamond_L15
      try simp (disch := omega) only [k_0, k_1, k_2, k_3, k_4, k_6, k_7, k_10, k_11, k_12, k_13, k_14, k_16, k_32, k_36, k_40, k_41, k_42, k_43, k_49, k_64, k_80, k_96, k_97, k_100, k_109, k_110, k_127, k_128, k_146, k_147, k_160, k_2304, k_4608, k_13824, nI_add, pk_mul, pk_sub, nI_clamp, q_in, nI_ltI, nI_leI, nI_eq, forall_eq, e_shl, e_bit, e_b0, e_b1, e_bn, e_andn, fa_or, fa_and, e_m1, e_nneg]
      rw [hv0]
      try simp (disch := omega) only [k_0, k_1, k_2, k_3, k_4, k_6, k_7, k_10, k_11, k_12, k_13, k_14, k_16, k_32, k_36, k_40, k_41, k_42, k_43, k_49, k_64, k_80, k_96, k_97, k_100, k_109, k_110, k_127, k_128, k_146, k_147, k_160, k_2304, k_4608, k_13824, nI_add, pk_mul, pk_sub, nI_clamp, q_in, nI_ltI, nI_leI, nI_eq, forall_eq, e_shl, e_bit, e_b0, e_b1, e_bn, e_andn, fa_or, fa_and, e_m1, e_nneg]
      repeat (first | refine And.intro (fun hh => absurd hh (by omega)) (fun _ => ?_) | refine And.intro (fun _ => ?_) (fun hh => absurd hh (by omega)) | refine And.intro (by omega) ?_)
      refine for_X11_brokenDiamond_L29 _ _ _ _ _ (k) (fun y => x < y ∧ ER fr k n ar q x y) ?_ ?_ (x + 1) _ rfl (by omega) (⟨by omega, fun q' x' y' g1 g2 g3 g4 => hJ2 q' x' y' g1 g2 g3 (by omega)⟩)
      · rintro again3 y hy ⟨hxy, hJ3⟩ hag3
        have next : ¬ BD fr ar q x y → again3 (nI (y + 1)) := fun hno => hag3 ⟨by omega, fun q' x' y' g1 g2 g3 g4 => by
          by_cases e : q' = q ∧ x' = x ∧ y' = y
          · obtain ⟨rfl, rfl, rfl⟩ := e; exact hno
          · exact hJ3 q' x' y' g1 g2 g3 (by omega)⟩
        have a1 := har q x hq (by omega)
        have a2 := har q y hq (by omega)
        have a3 := har _ y a1 (by omega)
        have a4 := har _ x a2 (by omega)
        unfold wp_X11_brokenDiamond_L29
        try simp (disch := omega) only [k_0, k_1, k_2, k_3, k_4, k_6, k_7, k_10, k_11, k_12, k_13, k_14, k_16, k_32, k_36, k_40, k_41, k_42, k_43, k_49, k_64, k_80, k_96, k_97, k_100, k_109, k_110, k_127, k_128, k_146, k_147, k_160, k_2304, k_4608, k_13824, nI_add, pk_mul, pk_sub, nI_clamp, q_in, nI_ltI, nI_leI, nI_eq, forall_eq, e_shl, e_bit, e_b0, e_b1, e_bn, e_andn, fa_or, fa_and, e_m1, e_nneg]
        rw [hv0]
        try simp (disch := omega) only [k_0, k_1, k_2, k_3, k_4, k_6, k_7, k_10, k_11, k_12, k_13, k_14, k_16, k_32, k_36, k_40, k_41, k_42, k_43, k_49, k_64, k_80, k_96, k_97, k_100, k_109, k_110, k_127, k_128, k_146, k_147, k_160, k_2304, k_4608, k_13824, nI_add, pk_mul, pk_sub, nI_clamp, q_in, nI_ltI, nI_leI, nI_eq, forall_eq, e_shl, e_bit, e_b0, e_b1, e_bn, e_andn, fa_or, fa_and, e_m1, e_nneg]
        repeat (first | refine And.intro (fun hh => absurd hh (by omega)) (fun _ => ?_) | refine And.intro (fun _ => ?_) (fun hh => absurd hh (by omega)) | refine And.intro (by omega) ?_)
        refine s_free hf (by omega) (by omega) ?_
        cases hi : ind fr x y with
        | false => exact br_t (by decide) (next (fun hB => by rw [hB.1] at hi; cases hi))
        | true =>
          refine br_f (by decide) (s_arrow hn hA hq (by omega) (s_arrow hn hA a1 (by omega) (s_arrow hn hA hq (by omega) (s_arrow hn hA a2 (by omega) ?_))))
          try simp (disch := omega) only [k_0, k_1, k_2, k_3, k_4, k_6, k_7, k_10, k_11, k_12, k_13, k_14, k_16, k_32, k_36, k_40, k_41, k_42, k_43, k_49, k_64, k_80, k_96, k_97, k_100, k_109, k_110, k_127, k_128, k_146, k_147, k_160, k_2304, k_4608, k_13824, nI_add, pk_mul, pk_sub, nI_clamp, q_in, nI_ltI, nI_leI, nI_eq, forall_eq, e_shl, e_bit, e_b0, e_b1, e_bn, e_andn, fa_or, fa_and, e_m1, e_nneg]
          refine ⟨fun e => next (fun hB => hB.2 e), fun e => ?_⟩
          exact h1 q x y ⟨hq, hxy, hy, ⟨hi, e⟩, hJ3⟩
      · rintro again3 ⟨hxy, hJ3⟩
        unfold wp_X11_brokenDiamond_L29
        try simp (disch := omega) only [k_0, k_1, k_2, k_3, k_4, k_6, k_7, k_10, k_11, k_12, k_13, k_14, k_16, k_32, k_36, k_40, k_41, k_42, k_43, k_49, k_64, k_80, k_96, k_97, k_100, k_109, k_110, k_127, k_128, k_146, k_147, k_160, k_2304, k_4608, k_13824, nI_add, pk_mul, pk_sub, nI_clamp, q_in, nI_ltI, nI_leI, nI_eq, forall_eq, e_shl, e_bit, e_b0, e_b1, e_bn, e_andn, fa_or, fa_and, e_m1, e_nneg]
        rw [hv0]
        try simp (disch := omega) only [k_0, k_1, k_2, k_3, k_4, k_6, k_7, k_10, k_11, k_12, k_13, k_14, k_16, k_32, k_36, k_40, k_41, k_42, k_43, k_49, k_64, k_80, k_96, k_97, k_100, k_109, k_110, k_127, k_128, k_146, k_147, k_160, k_2304, k_4608, k_13824, nI_add, pk_mul, pk_sub, nI_clamp, q_in, nI_ltI, nI_leI, nI_eq, forall_eq, e_shl, e_bit, e_b0, e_b1, e_bn, e_andn, fa_or, fa_and, e_m1, e_nneg]
        repeat (first | refine And.intro (fun hh => absurd hh (by omega)) (fun _ => ?_) | refine And.intro (fun _ => ?_) (fun hh => absurd hh (by omega)) | refine And.intro (by omega) ?_)
        exact hag2 (fun q' x' y' g1 g2 g3 g4 => hJ3 q' x' y' g1 g2 g3 (by omega))
    · intro again2 hJ2
      unfold wp_X11_brokenDiamond_L15
      try simp (disch := omega) only [k_0, k_1, k_2, k_3, k_4, k_6, k_7, k_10, k_11, k_12, k_13, k_14, k_16, k_32, k_36, k_40, k_41, k_42, k_43, k_49, k_64, k_80, k_96, k_97, k_100, k_109, k_110, k_127, k_128, k_146, k_147, k_160, k_2304, k_4608, k_13824, nI_add, pk_mul, pk_sub, nI_clamp, q_in, nI_ltI, nI_leI, nI_eq, forall_eq, e_shl, e_bit, e_b0, e_b1, e_bn, e_andn, fa_or, fa_and, e_m1, e_nneg]
      rw [hv0]
      try simp (disch := omega) only [k_0, k_1, k_2, k_3, k_4, k_6, k_7, k_10, k_11, k_12, k_13, k_14, k_16, k_32, k_36, k_40, k_41, k_42, k_43, k_49, k_64, k_80, k_96, k_97, k_100, k_109, k_110, k_127, k_128, k_146, k_147, k_160, k_2304, k_4608, k_13824, nI_add, pk_mul, pk_sub, nI_clamp, q_in, nI_ltI, nI_leI, nI_eq, forall_eq, e_shl, e_bit, e_b0, e_b1, e_bn, e_andn, fa_or, fa_and, e_m1, e_nneg]
      repeat (first | refine And.intro (fun hh => absurd hh (by omega)) (fun _ => ?_) | refine And.intro (fun _ => ?_) (fun hh => absurd hh (by omega)) | refine And.intro (by omega) ?_)
      exact hag (fun q' x' y' g1 g2 g3 g4 => hJ2 q' x' y' g1 g2 g3 (by omega))
  · intro again hJ
    unfold wp_X11_brokenDiamond_L2
    try simp (disch := omega) only [k_0, k_1, k_2, k_3, k_4, k_6, k_7, k_10, k_11, k_12, k_13, k_14, k_16, k_32, k_36, k_40, k_41, k_42, k_43, k_49, k_64, k_80, k_96, k_97, k_100, k_109, k_110, k_127, k_128, k_146, k_147, k_160, k_2304, k_4608, k_13824, nI_add, pk_mul, pk_sub, nI_clamp, q_in, nI_ltI, nI_leI, nI_eq, forall_eq, e_shl, e_bit, e_b0, e_b1, e_bn, e_andn, fa_or, fa_and, e_m1, e_nneg]
    rw [hn0]
    try simp (disch := omega) only [k_0, k_1, k_2, k_3, k_4, k_6, k_7, k_10, k_11, k_12, k_13, k_14, k_16, k_32, k_36, k_40, k_41, k_42, k_43, k_49, k_64, k_80, k_96, k_97, k_100, k_109, k_110, k_127, k_128, k_146, k_147, k_160, k_2304, k_4608, k_13824, nI_add, pk_mul, pk_sub, nI_clamp, q_in, nI_ltI, nI_leI, nI_eq, forall_eq, e_shl, e_bit, e_b0, e_b1, e_bn, e_andn, fa_or, fa_and, e_m1, e_nneg]
    repeat (first | refine And.intro (fun hh => absurd hh (by omega)) (fun _ => ?_) | refine And.intro (fun _ => ?_) (fun hh => absurd hh (by omega)) | refine And.intro (by omega) ?_)
    exact h0 hJ
/-- the answer of brokenDiamond -/
def bdv (fr : Nat → Nat) (k n : Nat) (ar : Nat → Nat → Nat) (r : Int32) : Prop := (∃ q x y, FD fr k n ar q x y ∧ r = nI (100 * q + 10 * x + y)) ∨ (ER fr k n ar n 0 0 ∧ r = -5)
theorem bdv_one {fr : Nat → Nat} {k n : Nat} {ar : Nat → Nat → Nat} {r r' : Int32} (h : bdv fr k n ar r) (h' : bdv fr k n ar r') : r = r' := by
  rcases h with ⟨q, x, y, h1, h2⟩ | ⟨h1, h2⟩
  · rcases h' with ⟨q', x', y', g1, g2⟩ | ⟨g1, -⟩
    · obtain ⟨rfl, rfl, rfl⟩ := h1.one g1
      rw [h2, g2]
    · exact absurd h1.2.2.2.1 (g1 q x y h1.1 h1.2.1 h1.2.2.1 (Or.inl h1.1))
  · rcases h' with ⟨q, x, y, g1, -⟩ | ⟨-, g2⟩
    · exact absurd g1.2.2.2.1 (h1 q x y g1.1 g1.2.1 g1.2.2.1 (Or.inl g1.1))
    · rw [h2, g2]
theorem M_brokenDiamond {A_now_alphabet_count : Int32} {A_now_alphabet_free : Nat → Int32} {A_now_words_size : Nat → Int32} {A_now_words_letters : Nat → Nat → Int32} {A_now_recogniser_states : Int32} {A_now_recogniser_accepting : Int32} {A_now_recogniser_arrows : Nat → Int32} {B_v : Nat → Int32} (hR : REL A_now_alphabet_count A_now_alphabet_free A_now_words_size A_now_words_letters A_now_recogniser_states A_now_recogniser_accepting A_now_recogniser_arrows B_v) {K : Int32 → Prop} (hK : ∀ (r : Int32), (∀ Q : Int32 → Prop, (Q r) → wp_X11_brokenDiamond B_v  Q) → K r) : wp_X10_brokenDiamond A_now_alphabet_count A_now_alphabet_free A_now_recogniser_states A_now_recogniser_arrows  K := by
  have hR0 := hR
  obtain ⟨k, fr, W, n, ar, ac, hS, hA, hB⟩ := hR
  have hS0 := hS
  have hA0 := hA
  have hB0 := hB
  obtain ⟨hFR, hWS, hn1, hn6, har, hacl⟩ := hS
  obtain ⟨rfl, hF, hW, rfl, rfl, hAr⟩ := hA
  obtain ⟨hk0, hV, hWV, hn0, hac0, hArV, hAr6⟩ := hB
  have hk6 := hFR.2.1
  have hk2 := hFR.1
  have irr := hFR.irr
  have sym := hFR.sym
  unfold wp_X10_brokenDiamond
  have fin : ∀ r, bdv fr k n ar r → K r := by
    intro r hr
    apply hK
    intro Q hQ
    refine s_brokenR hk0 hn0 hV hk6 hn6 hArV har (fun q x y h => ?_) (fun h => ?_)
    · rw [← bdv_one hr (Or.inl ⟨q, x, y, h, rfl⟩)]; exact hQ
    · rw [← bdv_one hr (Or.inr ⟨h, rfl⟩)]; exact hQ
  exact s_findBroken hF hk6 hn6 hAr har (fun q x y h => fin _ (Or.inl ⟨q, x, y, h, rfl⟩)) (fun h => fin _ (Or.inr ⟨h, rfl⟩))
