/-! the same in the reference -/
theorem s_findWords {bg : Int32} {v one cn st bf : Nat → Int32} {wd : Nat → Int64} {fr : Nat → Nat} {k : Nat} {u : List Nat} {n : Nat} {ar : Nat → Nat → Nat} (irr : ∀ a, ind fr a a = false) (sym : ∀ a b, ind fr a b = ind fr b a) (hv0 : v 0 = nI k) (hf : FV v fr) (hk : k ≤ 6) (hu : ∀ x ∈ u, x < k) (hR : RW one u) (h16 : u.length ≤ 16) (hn0 : v 109 = nI n) (hn : n ≤ 6) (hA : ∀ q x, q < n → x < 6 → v (110 + 6 * q + x) = nI (ar q x)) (har : ∀ q x, q < n → x < 6 → ar q x < n) {K : Int32 → (Nat → Int32) → (Nat → Int32) → (Nat → Int32) → (Nat → Int64) → Prop} (hK : ∀ cn st bf wd, AG u wd (allT fr k u n ar (wt u 6)) → K (nI (wt u 6)) cn st bf wd) : wp_X11_findWords (nI u.length) bg v one cn st bf wd K := by
  have hu6 : ∀ x ∈ u, x < 6 := fun x hx => Nat.lt_of_lt_of_le (hu x hx) hk
  have hN := wt_le hu6 h16
  have hp6 := wt_pos u 6
  unfold wp_X11_findWords
  refine s_findBeg hu6 hR h16 (fun cn st bf hc hs hB => ?_)
  refine for_X11_findWords_L6 _ _ (6 * wt u 6) (fun i t => ∀ j, j < i → t j = if j = 0 then 1 else 0) ?_ ?_ (0) _ _ rfl (Nat.zero_le _) (fun j hj => absurd hj (Nat.not_lt_zero _))
  · intro again i t hi hJ hag
    have put : ∀ y, y = (if i = 0 then (1 : Int64) else 0) → again (nI (i + 1)) (vp_updL t i y) := fun y hy => hag _ (fun j hj => by
      by_cases e : j = i
      · subst e; rw [pk_uLs, hy]
      · rw [pk_uLn e]; exact hJ j (by omega))
    unfold wp_X11_findWords_L6
    try simp (disch := omega) only [k_0, k_1, k_2, k_3, k_4, k_6, k_7, k_10, k_11, k_12, k_13, k_14, k_16, k_32, k_36, k_40, k_41, k_42, k_43, k_49, k_64, k_80, k_96, k_97, k_100, k_109, k_110, k_127, k_128, k_146, k_147, k_160, k_2304, k_4608, k_13824, nI_add, pk_mul, pk_sub, nI_clamp, q_in, nI_ltI, nI_leI, nI_eq, forall_eq, e_shl, e_bit, e_b0, e_b1, e_bn, e_andn, fa_or, fa_and, e_m1, e_nneg]
    repeat (first | refine And.intro (fun hh => absurd hh (by omega)) (fun _ => ?_) | refine And.intro (fun _ => ?_) (fun hh => absurd hh (by omega)) | refine And.intro (by omega) ?_)
    refine ⟨fun q => ⟨by omega, put _ (by rw [if_neg q])⟩, fun q => ⟨by omega, put _ (by rw [if_pos q])⟩⟩
  intro again t0 hJ0
  unfold wp_X11_findWords_L6
  try simp (disch := omega) only [k_0, k_1, k_2, k_3, k_4, k_6, k_7, k_10, k_11, k_12, k_13, k_14, k_16, k_32, k_36, k_40, k_41, k_42, k_43, k_49, k_64, k_80, k_96, k_97, k_100, k_109, k_110, k_127, k_128, k_146, k_147, k_160, k_2304, k_4608, k_13824, nI_add, pk_mul, pk_sub, nI_clamp, q_in, nI_ltI, nI_leI, nI_eq, forall_eq, e_shl, e_bit, e_b0, e_b1, e_bn, e_andn, fa_or, fa_and, e_m1, e_nneg]
  repeat (first | refine And.intro (fun hh => absurd hh (by omega)) (fun _ => ?_) | refine And.intro (fun _ => ?_) (fun hh => absurd hh (by omega)) | refine And.intro (by omega) ?_)
  refine for_X11_findWords_L40 _ _ _ _ _ _ (wt u 6) (fun p t => AG u t (allT fr k u n ar p)) ?_ ?_ (0) _ _ rfl (Nat.zero_le _) (fun i hi => hJ0 i (by omega))
  · intro again2 p t hp gA hag
    unfold wp_X11_findWords_L40
    try simp (disch := omega) only [k_0, k_1, k_2, k_3, k_4, k_6, k_7, k_10, k_11, k_12, k_13, k_14, k_16, k_32, k_36, k_40, k_41, k_42, k_43, k_49, k_64, k_80, k_96, k_97, k_100, k_109, k_110, k_127, k_128, k_146, k_147, k_160, k_2304, k_4608, k_13824, nI_add, pk_mul, pk_sub, nI_clamp, q_in, nI_ltI, nI_leI, nI_eq, forall_eq, e_shl, e_bit, e_b0, e_b1, e_bn, e_andn, fa_or, fa_and, e_m1, e_nneg]
    repeat (first | refine And.intro (fun hh => absurd hh (by omega)) (fun _ => ?_) | refine And.intro (fun _ => ?_) (fun hh => absurd hh (by omega)) | refine And.intro (by omega) ?_)
    refine for_X11_findWords_L50 _ _ _ _ _ _ (k) (fun x t => AG u t (rowT fr u n ar p (allT fr k u n ar p) x)) ?_ ?_ (0) _ _ rfl (Nat.zero_le _) (gA)
    · intro again3 x t2 hx r3 hag3
      unfold wp_X11_findWords_L50
      try simp (disch := omega) only [k_0, k_1, k_2, k_3, k_4, k_6, k_7, k_10, k_11, k_12, k_13, k_14, k_16, k_32, k_36, k_40, k_41, k_42, k_43, k_49, k_64, k_80, k_96, k_97, k_100, k_109, k_110, k_127, k_128, k_146, k_147, k_160, k_2304, k_4608, k_13824, nI_add, pk_mul, pk_sub, nI_clamp, q_in, nI_ltI, nI_leI, nI_eq, forall_eq, e_shl, e_bit, e_b0, e_b1, e_bn, e_andn, fa_or, fa_and, e_m1, e_nneg]
      rw [hv0]
      try simp (disch := omega) only [k_0, k_1, k_2, k_3, k_4, k_6, k_7, k_10, k_11, k_12, k_13, k_14, k_16, k_32, k_36, k_40, k_41, k_42, k_43, k_49, k_64, k_80, k_96, k_97, k_100, k_109, k_110, k_127, k_128, k_146, k_147, k_160, k_2304, k_4608, k_13824, nI_add, pk_mul, pk_sub, nI_clamp, q_in, nI_ltI, nI_leI, nI_eq, forall_eq, e_shl, e_bit, e_b0, e_b1, e_bn, e_andn, fa_or, fa_and, e_m1, e_nneg]
      repeat (first | refine And.intro (fun hh => absurd hh (by omega)) (fun _ => ?_) | refine And.intro (fun _ => ?_) (fun hh => absurd hh (by omega)) | refine And.intro (by omega) ?_)
      refine s_canCome irr sym hv0 hf hk hu h16 hN hc hs hB hp (by omega) ?_
      rw [rowT_s] at hag3
      cases hcc : cc fr u p x with
      | false =>
        rw [hcc, if_neg (by decide)] at hag3
        exact br_t (by decide) (hag3 _ r3)
      | true =>
        rw [hcc, if_pos rfl] at hag3
        have hlt := cc_lt irr sym hu hp (by omega) hcc
        refine br_f (by decide) ?_
        refine for_X11_findWords_L71 _ _ _ _ _ (n) (fun q t => AG u t (pasT u ar p x (rowT fr u n ar p (allT fr k u n ar p) x) q)) ?_ ?_ (0) _ _ rfl (Nat.zero_le _) (r3)
        · intro again4 q t3 hq hJ4 hag4
          have ha := har q x hq (by omega)
          unfold wp_X11_findWords_L71
          try simp (disch := omega) only [k_0, k_1, k_2, k_3, k_4, k_6, k_7, k_10, k_11, k_12, k_13, k_14, k_16, k_32, k_36, k_40, k_41, k_42, k_43, k_49, k_64, k_80, k_96, k_97, k_100, k_109, k_110, k_127, k_128, k_146, k_147, k_160, k_2304, k_4608, k_13824, nI_add, pk_mul, pk_sub, nI_clamp, q_in, nI_ltI, nI_leI, nI_eq, forall_eq, e_shl, e_bit, e_b0, e_b1, e_bn, e_andn, fa_or, fa_and, e_m1, e_nneg]
          rw [hn0, hs x (by omega), hA q x hq (by omega)]
          try simp (disch := omega) only [k_0, k_1, k_2, k_3, k_4, k_6, k_7, k_10, k_11, k_12, k_13, k_14, k_16, k_32, k_36, k_40, k_41, k_42, k_43, k_49, k_64, k_80, k_96, k_97, k_100, k_109, k_110, k_127, k_128, k_146, k_147, k_160, k_2304, k_4608, k_13824, nI_add, pk_mul, pk_sub, nI_clamp, q_in, nI_ltI, nI_leI, nI_eq, forall_eq, e_shl, e_bit, e_b0, e_b1, e_bn, e_andn, fa_or, fa_and, e_m1, e_nneg]
          repeat (first | refine And.intro (fun hh => absurd hh (by omega)) (fun _ => ?_) | refine And.intro (fun _ => ?_) (fun hh => absurd hh (by omega)) | refine And.intro (by omega) ?_)
          refine hag4 _ (fun i hi => ?_)
          rw [pasT_s, hJ4 (6 * p + q) (by omega)]
          by_cases e : i = 6 * (p + wt u x) + ar q x
          · subst e; rw [pk_uLs, pk_uLs, hJ4 _ hi]
          · rw [pk_uLn e, pk_uLn e]; exact hJ4 i hi
        · intro again4 t3 hJ4
          unfold wp_X11_findWords_L71
          try simp (disch := omega) only [k_0, k_1, k_2, k_3, k_4, k_6, k_7, k_10, k_11, k_12, k_13, k_14, k_16, k_32, k_36, k_40, k_41, k_42, k_43, k_49, k_64, k_80, k_96, k_97, k_100, k_109, k_110, k_127, k_128, k_146, k_147, k_160, k_2304, k_4608, k_13824, nI_add, pk_mul, pk_sub, nI_clamp, q_in, nI_ltI, nI_leI, nI_eq, forall_eq, e_shl, e_bit, e_b0, e_b1, e_bn, e_andn, fa_or, fa_and, e_m1, e_nneg]
          rw [hn0]
          try simp (disch := omega) only [k_0, k_1, k_2, k_3, k_4, k_6, k_7, k_10, k_11, k_12, k_13, k_14, k_16, k_32, k_36, k_40, k_41, k_42, k_43, k_49, k_64, k_80, k_96, k_97, k_100, k_109, k_110, k_127, k_128, k_146, k_147, k_160, k_2304, k_4608, k_13824, nI_add, pk_mul, pk_sub, nI_clamp, q_in, nI_ltI, nI_leI, nI_eq, forall_eq, e_shl, e_bit, e_b0, e_b1, e_bn, e_andn, fa_or, fa_and, e_m1, e_nneg]
          repeat (first | refine And.intro (fun hh => absurd hh (by omega)) (fun _ => ?_) | refine And.intro (fun _ => ?_) (fun hh => absurd hh (by omega)) | refine And.intro (by omega) ?_)
          exact hag3 _ hJ4
    · intro again3 t2 r3
      unfold wp_X11_findWords_L50
      try simp (disch := omega) only [k_0, k_1, k_2, k_3, k_4, k_6, k_7, k_10, k_11, k_12, k_13, k_14, k_16, k_32, k_36, k_40, k_41, k_42, k_43, k_49, k_64, k_80, k_96, k_97, k_100, k_109, k_110, k_127, k_128, k_146, k_147, k_160, k_2304, k_4608, k_13824, nI_add, pk_mul, pk_sub, nI_clamp, q_in, nI_ltI, nI_leI, nI_eq, forall_eq, e_shl, e_bit, e_b0, e_b1, e_bn, e_andn, fa_or, fa_and, e_m1, e_nneg]
      rw [hv0]
      try simp (disch := omega) only [k_0, k_1, k_2, k_3, k_4, k_6, k_7, k_10, k_11, k_12, k_13, k_14, k_16, k_32, k_36, k_40, k_41, k_42, k_43, k_49, k_64, k_80, k_96, k_97, k_100, k_109, k_110, k_127, k_128, k_146, k_147, k_160, k_2304, k_4608, k_13824, nI_add, pk_mul, pk_sub, nI_clamp, q_in, nI_ltI, nI_leI, nI_eq, forall_eq, e_shl, e_bit, e_b0, e_b1, e_bn, e_andn, fa_or, fa_and, e_m1, e_nneg]
      repeat (first | refine And.intro (fun hh => absurd hh (by omega)) (fun _ => ?_) | refine And.intro (fun _ => ?_) (fun hh => absurd hh (by omega)) | refine And.intro (by omega) ?_)
      exact hag _ (by rw [allT_s]; exact r3)
  · intro again2 t gA
    unfold wp_X11_findWords_L40
    try simp (disch := omega) only [k_0, k_1, k_2, k_3, k_4, k_6, k_7, k_10, k_11, k_12, k_13, k_14, k_16, k_32, k_36, k_40, k_41, k_42, k_43, k_49, k_64, k_80, k_96, k_97, k_100, k_109, k_110, k_127, k_128, k_146, k_147, k_160, k_2304, k_4608, k_13824, nI_add, pk_mul, pk_sub, nI_clamp, q_in, nI_ltI, nI_leI, nI_eq, forall_eq, e_shl, e_bit, e_b0, e_b1, e_bn, e_andn, fa_or, fa_and, e_m1, e_nneg]
    repeat (first | refine And.intro (fun hh => absurd hh (by omega)) (fun _ => ?_) | refine And.intro (fun _ => ?_) (fun hh => absurd hh (by omega)) | refine And.intro (by omega) ?_)
    exact hK _ _ _ _ gA
theorem s_wordsTo {v : Nat → Int32} {wd : Nat → Int64} {fr : Nat → Nat} {k : Nat} {u : List Nat} {n m : Nat} {ar : Nat → Nat → Nat} (hN : wt u 6 ≤ 2304) (hn0 : v 109 = nI n) (hn : n ≤ 6) (h : AG u wd (allT fr k u n ar (wt u 6))) {K : Int64 → Prop} (hK : K (cA fr k u n ar m)) : wp_X11_wordsTo (nI (wt u 6)) v wd (nI m) K := by
  have hp6 := wt_pos u 6
  unfold wp_X11_wordsTo
  refine for_X11_wordsTo_L5 _ _ _ _ _ (n) (fun i x => x = sL (fun q => if m.testBit q then allT fr k u n ar (wt u 6) (6 * (wt u 6 - 1) + q) else 0) i) ?_ ?_ (0) _ _ rfl (Nat.zero_le _) (rfl)
  · rintro again i x hi rfl hag
    unfold wp_X11_wordsTo_L5
    try simp (disch := omega) only [k_0, k_1, k_2, k_3, k_4, k_6, k_7, k_10, k_11, k_12, k_13, k_14, k_16, k_32, k_36, k_40, k_41, k_42, k_43, k_49, k_64, k_80, k_96, k_97, k_100, k_109, k_110, k_127, k_128, k_146, k_147, k_160, k_2304, k_4608, k_13824, nI_add, pk_mul, pk_sub, nI_clamp, q_in, nI_ltI, nI_leI, nI_eq, forall_eq, e_shl, e_bit, e_b0, e_b1, e_bn, e_andn, fa_or, fa_and, e_m1, e_nneg]
    rw [hn0]
    try simp (disch := omega) only [k_0, k_1, k_2, k_3, k_4, k_6, k_7, k_10, k_11, k_12, k_13, k_14, k_16, k_32, k_36, k_40, k_41, k_42, k_43, k_49, k_64, k_80, k_96, k_97, k_100, k_109, k_110, k_127, k_128, k_146, k_147, k_160, k_2304, k_4608, k_13824, nI_add, pk_mul, pk_sub, nI_clamp, q_in, nI_ltI, nI_leI, nI_eq, forall_eq, e_shl, e_bit, e_b0, e_b1, e_bn, e_andn, fa_or, fa_and, e_m1, e_nneg]
    repeat (first | refine And.intro (fun hh => absurd hh (by omega)) (fun _ => ?_) | refine And.intro (fun _ => ?_) (fun hh => absurd hh (by omega)) | refine And.intro (by omega) ?_)
    rw [sL_s] at hag
    refine ⟨fun q => ?_, fun q => ⟨by omega, ?_⟩⟩
    · rw [if_neg q] at hag
      exact hag _ rfl
    · rw [if_pos q] at hag
      rw [h _ (by omega)]
      exact hag _ rfl
  · rintro again x rfl
    unfold wp_X11_wordsTo_L5
    try simp (disch := omega) only [k_0, k_1, k_2, k_3, k_4, k_6, k_7, k_10, k_11, k_12, k_13, k_14, k_16, k_32, k_36, k_40, k_41, k_42, k_43, k_49, k_64, k_80, k_96, k_97, k_100, k_109, k_110, k_127, k_128, k_146, k_147, k_160, k_2304, k_4608, k_13824, nI_add, pk_mul, pk_sub, nI_clamp, q_in, nI_ltI, nI_leI, nI_eq, forall_eq, e_shl, e_bit, e_b0, e_b1, e_bn, e_andn, fa_or, fa_and, e_m1, e_nneg]
    rw [hn0]
    try simp (disch := omega) only [k_0, k_1, k_2, k_3, k_4, k_6, k_7, k_10, k_11, k_12, k_13, k_14, k_16, k_32, k_36, k_40, k_41, k_42, k_43, k_49, k_64, k_80, k_96, k_97, k_100, k_109, k_110, k_127, k_128, k_146, k_147, k_160, k_2304, k_4608, k_13824, nI_add, pk_mul, pk_sub, nI_clamp, q_in, nI_ltI, nI_leI, nI_eq, forall_eq, e_shl, e_bit, e_b0, e_b1, e_bn, e_andn, fa_or, fa_and, e_m1, e_nneg]
    repeat (first | refine And.intro (fun hh => absurd hh (by omega)) (fun _ => ?_) | refine And.intro (fun _ => ?_) (fun hh => absurd hh (by omega)) | refine And.intro (by omega) ?_)
    exact hK
theorem M_alikeWords {A_now_alphabet_count : Int32} {A_now_alphabet_free : Nat → Int32} {A_now_words_size : Nat → Int32} {A_now_words_letters : Nat → Nat → Int32} {A_now_recogniser_states : Int32} {A_now_recogniser_accepting : Int32} {A_now_recogniser_arrows : Nat → Int32} {A_prefixes_letters : Int32} {A_prefixes_size : Int32} {A_prefixes_places_letters : Int32} {A_prefixes_places_size : Int32} {A_prefixes_places_taken : Int32} {A_prefixes_places_letterAt : Nat → Int32} {A_prefixes_places_layerAt : Nat → Int32} {A_prefixes_places_before : Nat → Int32} {A_prefixes_places_placesOf : Nat → Int32} {A_prefixes_takenAt : Nat → Int32} {A_prefixes_weight : Nat → Int32} {A_counter_last : Int32} {A_counter_ways : Nat → Int64} {B_v : Nat → Int32} {B_oneLength : Int32} {B_beginnings : Int32} {B_one : Nat → Int32} {B_count : Nat → Int32} {B_step : Nat → Int32} {B_before : Nat → Int32} {B_words : Nat → Int64} (x1 : Int32) (hR : REL A_now_alphabet_count A_now_alphabet_free A_now_words_size A_now_words_letters A_now_recogniser_states A_now_recogniser_accepting A_now_recogniser_arrows B_v) {K : Int64 → Int32 → Int32 → Int32 → Int32 → Int32 → (Nat → Int32) → (Nat → Int32) → (Nat → Int32) → (Nat → Int32) → (Nat → Int32) → (Nat → Int32) → Int32 → (Nat → Int64) → Prop} (hK : ∀ (r : Int64) A_prefixes_letters' A_prefixes_size' A_prefixes_places_letters' A_prefixes_places_size' A_prefixes_places_taken' A_prefixes_places_letterAt' A_prefixes_places_layerAt' A_prefixes_places_before' A_prefixes_places_placesOf' A_prefixes_takenAt' A_prefixes_weight' A_counter_last' A_counter_ways', (∀ Q : Int64 → Int32 → Int32 → (Nat → Int32) → (Nat → Int32) → (Nat → Int32) → (Nat → Int32) → (Nat → Int64) → Prop, (∀ B_oneLength' B_beginnings' B_one' B_count' B_step' B_before' B_words', Q r B_oneLength' B_beginnings' B_one' B_count' B_step' B_before' B_words') → wp_X11_alikeWords B_oneLength B_beginnings B_v B_one B_count B_step B_before B_words x1 Q) → K r A_prefixes_letters' A_prefixes_size' A_prefixes_places_letters' A_prefixes_places_size' A_prefixes_places_taken' A_prefixes_places_letterAt' A_prefixes_places_layerAt' A_prefixes_places_before' A_prefixes_places_placesOf' A_prefixes_takenAt' A_prefixes_weight' A_counter_last' A_counter_ways') : wp_X10_alikeWords A_now_alphabet_count A_now_alphabet_free A_now_words_size A_now_words_letters A_now_recogniser_states A_now_recogniser_arrows A_prefixes_letters A_prefixes_size A_prefixes_places_letters A_prefixes_places_size A_prefixes_places_taken A_prefixes_places_letterAt A_prefixes_places_layerAt A_prefixes_places_before A_prefixes_places_placesOf A_prefixes_takenAt A_prefixes_weight A_counter_last A_counter_ways x1 K := by
  have hR0 := hR
  obtain ⟨k, fr, W, n, ar, ac, hS, hA, hB⟩ := hR
  have hS0 := hS
  have hA0 := hA
  have hB0 := hB
  obtain ⟨hFR, hWS, hn1, hn6, har, hacl⟩ := hS
  obtain ⟨rfl, hF, hW, rfl, rfl, hAr⟩ := hA
  obtain ⟨hk0, hV, hWV, hn0, hac0, hArV, hAr6⟩ := hB
  have hk6 := hFR.2.1
  have hk2 := hFR.1
  have irr := hFR.irr
  have sym := hFR.sym
  unfold wp_X10_alikeWords
  rcases in_cases x1 (n := 6) (by omega) with ⟨w, hw, rfl⟩ | hx
  · have ws1 := (hW w hw).1
    have wr1 := hW w hw
    rw [ws1] at wr1
    have wv1 := hWV w hw
    obtain ⟨l161, lk1⟩ := hWS w hw
    have lk61 : ∀ x ∈ W w, x < 6 := fun x h => Nat.lt_of_lt_of_le (lk1 x h) hk6
    have hN := wt_le lk61 l161
    refine s_word hw ?_
    (first | refine br_t (by decide) ?_ | refine br_f (by decide) ?_ | refine br_t' (by decide) ?_ | refine br_f' (by decide) ?_)
    try simp (disch := omega) only [k_0, k_1, k_2, k_3, k_4, k_6, k_7, k_10, k_11, k_12, k_13, k_14, k_16, k_32, k_36, k_40, k_41, k_42, k_43, k_49, k_64, k_80, k_96, k_97, k_100, k_109, k_110, k_127, k_128, k_146, k_147, k_160, k_2304, k_4608, k_13824, nI_add, pk_mul, pk_sub, nI_clamp, q_in, nI_ltI, nI_leI, nI_eq, forall_eq, e_shl, e_bit, e_b0, e_b1, e_bn, e_andn, fa_or, fa_and, e_m1, e_nneg]
    rw [ws1]
    refine ⟨hw, s_countAlike irr sym hF hk6 wr1 lk1 l161 hn6 hAr har (fun s1 s2 s3 s4 s5 a b c d t wg wy hAG => ?_)⟩
    refine s_countAll hN hn1 hn6 hk6 har hAG ?_
    apply hK
    intro Q hQ
    unfold wp_X11_alikeWords
    refine s_isWord hw ?_
    (first | refine br_t (by decide) ?_ | refine br_f (by decide) ?_ | refine br_t' (by decide) ?_ | refine br_f' (by decide) ?_)
    refine s_takesOne hw wv1 (fun one h1 => s_findWords irr sym hk0 hV hk6 lk1 h1 l161 hn0 hn6 hArV har (fun cn st bf wd hAG2 => s_wordsTo (m := 63) hN hn0 hn6 hAG2 ?_))
    first | (apply hQ; done) | (apply hQ; exact hR0)
  · refine s_wordN hx ?_
    (first | refine br_t (by decide) ?_ | refine br_f (by decide) ?_ | refine br_t' (by decide) ?_ | refine br_f' (by decide) ?_)
    apply hK
    intro Q hQ
    unfold wp_X11_alikeWords
    refine s_isWordN hx ?_
    (first | refine br_t (by decide) ?_ | refine br_f (by decide) ?_ | refine br_t' (by decide) ?_ | refine br_f' (by decide) ?_)
    first | (apply hQ; done) | (apply hQ; exact hR0)
theorem M_acceptedAlike {A_now_alphabet_count : Int32} {A_now_alphabet_free : Nat → Int32} {A_now_words_size : Nat → Int32} {A_now_words_letters : Nat → Nat → Int32} {A_now_recogniser_states : Int32} {A_now_recogniser_accepting : Int32} {A_now_recogniser_arrows : Nat → Int32} {A_prefixes_letters : Int32} {A_prefixes_size : Int32} {A_prefixes_places_letters : Int32} {A_prefixes_places_size : Int32} {A_prefixes_places_taken : Int32} {A_prefixes_places_letterAt : Nat → Int32} {A_prefixes_places_layerAt : Nat → Int32} {A_prefixes_places_before : Nat → Int32} {A_prefixes_places_placesOf : Nat → Int32} {A_prefixes_takenAt : Nat → Int32} {A_prefixes_weight : Nat → Int32} {A_counter_last : Int32} {A_counter_ways : Nat → Int64} {B_v : Nat → Int32} {B_oneLength : Int32} {B_beginnings : Int32} {B_one : Nat → Int32} {B_count : Nat → Int32} {B_step : Nat → Int32} {B_before : Nat → Int32} {B_words : Nat → Int64} (x1 : Int32) (hR : REL A_now_alphabet_count A_now_alphabet_free A_now_words_size A_now_words_letters A_now_recogniser_states A_now_recogniser_accepting A_now_recogniser_arrows B_v) {K : Int64 → Int32 → Int32 → Int32 → Int32 → Int32 → (Nat → Int32) → (Nat → Int32) → (Nat → Int32) → (Nat → Int32) → (Nat → Int32) → (Nat → Int32) → Int32 → (Nat → Int64) → Prop} (hK : ∀ (r : Int64) A_prefixes_letters' A_prefixes_size' A_prefixes_places_letters' A_prefixes_places_size' A_prefixes_places_taken' A_prefixes_places_letterAt' A_prefixes_places_layerAt' A_prefixes_places_before' A_prefixes_places_placesOf' A_prefixes_takenAt' A_prefixes_weight' A_counter_last' A_counter_ways', (∀ Q : Int64 → Int32 → Int32 → (Nat → Int32) → (Nat → Int32) → (Nat → Int32) → (Nat → Int32) → (Nat → Int64) → Prop, (∀ B_oneLength' B_beginnings' B_one' B_count' B_step' B_before' B_words', Q r B_oneLength' B_beginnings' B_one' B_count' B_step' B_before' B_words') → wp_X11_acceptedAlike B_oneLength B_beginnings B_v B_one B_count B_step B_before B_words x1 Q) → K r A_prefixes_letters' A_prefixes_size' A_prefixes_places_letters' A_prefixes_places_size' A_prefixes_places_taken' A_prefixes_places_letterAt' A_prefixes_places_layerAt' A_prefixes_places_before' A_prefixes_places_placesOf' A_prefixes_takenAt' A_prefixes_weight' A_counter_last' A_counter_ways') : wp_X10_acceptedAlike A_now_alphabet_count A_now_alphabet_free A_now_words_size A_now_words_letters A_now_recogniser_states A_now_recogniser_accepting A_now_recogniser_arrows A_prefixes_letters A_prefixes_size A_prefixes_places_letters A_prefixes_places_size A_prefixes_places_taken A_prefixes_places_letterAt A_prefixes_places_layerAt A_prefixes_places_before A_prefixes_places_placesOf A_prefixes_takenAt A_prefixes_weight A_counter_last A_counter_ways x1 K := by
  have hR0 := hR
  obtain ⟨k, fr, W, n, ar, ac, hS, hA, hB⟩ := hR
  have hS0 := hS
  have hA0 := hA
  have hB0 := hB
  obtain ⟨hFR, hWS, hn1, hn6, har, hacl⟩ := hS
  obtain ⟨rfl, hF, hW, rfl, rfl, hAr⟩ := hA
  obtain ⟨hk0, hV, hWV, hn0, hac0, hArV, hAr6⟩ := hB
  have hk6 := hFR.2.1
  have hk2 := hFR.1
  have irr := hFR.irr
  have sym := hFR.sym
  unfold wp_X10_acceptedAlike
  rcases in_cases x1 (n := 6) (by omega) with ⟨w, hw, rfl⟩ | hx
  · have ws1 := (hW w hw).1
    have wr1 := hW w hw
    rw [ws1] at wr1
    have wv1 := hWV w hw
    obtain ⟨l161, lk1⟩ := hWS w hw
    have lk61 : ∀ x ∈ W w, x < 6 := fun x h => Nat.lt_of_lt_of_le (lk1 x h) hk6
    have hN := wt_le lk61 l161
    refine s_word hw ?_
    (first | refine br_t (by decide) ?_ | refine br_f (by decide) ?_ | refine br_t' (by decide) ?_ | refine br_f' (by decide) ?_)
    try simp (disch := omega) only [k_0, k_1, k_2, k_3, k_4, k_6, k_7, k_10, k_11, k_12, k_13, k_14, k_16, k_32, k_36, k_40, k_41, k_42, k_43, k_49, k_64, k_80, k_96, k_97, k_100, k_109, k_110, k_127, k_128, k_146, k_147, k_160, k_2304, k_4608, k_13824, nI_add, pk_mul, pk_sub, nI_clamp, q_in, nI_ltI, nI_leI, nI_eq, forall_eq, e_shl, e_bit, e_b0, e_b1, e_bn, e_andn, fa_or, fa_and, e_m1, e_nneg]
    rw [ws1]
    refine ⟨hw, s_countAlike irr sym hF hk6 wr1 lk1 l161 hn6 hAr har (fun s1 s2 s3 s4 s5 a b c d t wg wy hAG => ?_)⟩
    refine s_countAccepted hN hn6 hAG ?_
    apply hK
    intro Q hQ
    unfold wp_X11_acceptedAlike
    refine s_isWord hw ?_
    (first | refine br_t (by decide) ?_ | refine br_f (by decide) ?_ | refine br_t' (by decide) ?_ | refine br_f' (by decide) ?_)
    refine s_takesOne hw wv1 (fun one h1 => s_findWords irr sym hk0 hV hk6 lk1 h1 l161 hn0 hn6 hArV har (fun cn st bf wd hAG2 => ?_))
    try simp (disch := omega) only [k_0, k_1, k_2, k_3, k_4, k_6, k_7, k_10, k_11, k_12, k_13, k_14, k_16, k_32, k_36, k_40, k_41, k_42, k_43, k_49, k_64, k_80, k_96, k_97, k_100, k_109, k_110, k_127, k_128, k_146, k_147, k_160, k_2304, k_4608, k_13824, nI_add, pk_mul, pk_sub, nI_clamp, q_in, nI_ltI, nI_leI, nI_eq, forall_eq, e_shl, e_bit, e_b0, e_b1, e_bn, e_andn, fa_or, fa_and, e_m1, e_nneg]
    rw [hac0]
    refine ⟨by decide, s_wordsTo hN hn0 hn6 hAG2 ?_⟩
    first | (apply hQ; done) | (apply hQ; exact hR0)
  · refine s_wordN hx ?_
    (first | refine br_t (by decide) ?_ | refine br_f (by decide) ?_ | refine br_t' (by decide) ?_ | refine br_f' (by decide) ?_)
    apply hK
    intro Q hQ
    unfold wp_X11_acceptedAlike
    refine s_isWordN hx ?_
    (first | refine br_t (by decide) ?_ | refine br_f (by decide) ?_ | refine br_t' (by decide) ?_ | refine br_f' (by decide) ?_)
    first | (apply hQ; done) | (apply hQ; exact hR0)
/-! factors -/
noncomputable def rcX (fr : Nat → Nat) (u : List Nat) (p : Nat) (R : Nat → Bool) (x : Nat) : Nat → Bool := fld (fun x R => if R p && cc fr u p x then (fun j => R j || decide (j = p + wt u x)) else R) R x
noncomputable def rcP (fr : Nat → Nat) (k : Nat) (u : List Nat) (p : Nat) : Nat → Bool := fld (fun p R => rcX fr u p R k) (fun b => decide (b = 0)) p
theorem rcX_s (fr : Nat → Nat) (u : List Nat) (p : Nat) (R : Nat → Bool) (x : Nat) : rcX fr u p R (x + 1) = if rcX fr u p R x p && cc fr u p x then (fun j => rcX fr u p R x j || decide (j = p + wt u x)) else rcX fr u p R x := rfl
theorem rcP_s (fr : Nat → Nat) (k : Nat) (u : List Nat) (p : Nat) : rcP fr k u (p + 1) = rcX fr u p (rcP fr k u p) k := rfl
theorem rcX_p (fr : Nat → Nat) (u : List Nat) (p : Nat) (R : Nat → Bool) : ∀ x, rcX fr u p R x p = R p
  | 0 => rfl
  | x + 1 => by
    have hw := wt_pos u x
    rw [rcX_s]
    split
    · show (rcX fr u p R x p || decide (p = p + wt u x)) = R p
      rw [rcX_p fr u p R x, decide_eq_false (by omega), Bool.or_false]
    · exact rcX_p fr u p R x
def FACT (fr : Nat → Nat) (k : Nat) (u w : List Nat) (b : Nat) : Prop := rcP fr k u b b = true ∧ dvd (ind fr) w (rem u (tb (Tm u b))) ≠ none
theorem s_someIs {t wA bA pA lA yA lt : Nat → Int32} {fr : Nat → Nat} {k : Nat} {u w : List Nat} (irr : ∀ a, ind fr a a = false) (sym : ∀ a b, ind fr a b = ind fr b a) (hk : k ≤ 6) (hu : ∀ x ∈ u, x < k) (h16 : u.length ≤ 16) (hN : wt u 6 ≤ 2304) (hP : PL fr u u.length lA yA bA pA) (hT : TA u t (fun b => decide (b = 0))) (hG : WG u wA) {pt : Int32} (hW : WR (nI w.length) lt w) (hw : ∀ x ∈ w, x < 6) {K : Int32 → Int32 → (Nat → Int32) → Prop} (h1 : (∃ b, b < wt u 6 ∧ FACT fr k u w b) → ∀ p t, K 1 p t) (h0 : (¬ ∃ b, b < wt u 6 ∧ FACT fr k u w b) → ∀ p t, K 0 p t) : wp_X4_someIsFollowedBy (nI k) (nI (wt u 6)) pt bA pA t wA (nI w.length) lt K := by
  unfold wp_X4_someIsFollowedBy
  refine for_X4_someIsFollowedBy_L2 _ _ _ _ _ _ _ _ _ (wt u 6) (fun p pt t => TA u t (rcP fr k u p) ∧ ∀ b, b < p → ¬ FACT fr k u w b) ?_ ?_ (0) _ _ _ rfl (Nat.zero_le _) (⟨hT, fun b hb => absurd hb (Nat.not_lt_zero _)⟩)
  · rintro again p pt t hp ⟨gT, gN⟩ hag
    unfold wp_X4_someIsFollowedBy_L2
    try simp (disch := omega) only [k_0, k_1, k_2, k_3, k_4, k_6, k_7, k_10, k_11, k_12, k_13, k_14, k_16, k_32, k_36, k_40, k_41, k_42, k_43, k_49, k_64, k_80, k_96, k_97, k_100, k_109, k_110, k_127, k_128, k_146, k_147, k_160, k_2304, k_4608, k_13824, nI_add, pk_mul, pk_sub, nI_clamp, q_in, nI_ltI, nI_leI, nI_eq, forall_eq, e_shl, e_bit, e_b0, e_b1, e_bn, e_andn, fa_or, fa_and, e_m1, e_nneg]
    repeat (first | refine And.intro (fun hh => absurd hh (by omega)) (fun _ => ?_) | refine And.intro (fun _ => ?_) (fun hh => absurd hh (by omega)) | refine And.intro (by omega) ?_)
    have lets : ∀ (kx : Int32 → (Nat → Int32) → Prop) (pt : Int32), (∀ pt t', TA u t' (rcP fr k u (p + 1)) → kx pt t') → lp_X4_someIsFollowedBy_L33 K kx (nI k) (nI (wt u 6)) bA pA wA (nI p) 0 pt t := by
      intro kx pt hkx
      refine for_X4_someIsFollowedBy_L33 _ _ _ _ _ _ _ (k) (fun x pt t => TA u t (rcX fr u p (rcP fr k u p) x)) ?_ ?_ (0) _ _ _ rfl (Nat.zero_le _) (gT)
      · intro again2 x pt2 t2 hx hT2 hag2
        unfold wp_X4_someIsFollowedBy_L33
        try simp (disch := omega) only [k_0, k_1, k_2, k_3, k_4, k_6, k_7, k_10, k_11, k_12, k_13, k_14, k_16, k_32, k_36, k_40, k_41, k_42, k_43, k_49, k_64, k_80, k_96, k_97, k_100, k_109, k_110, k_127, k_128, k_146, k_147, k_160, k_2304, k_4608, k_13824, nI_add, pk_mul, pk_sub, nI_clamp, q_in, nI_ltI, nI_leI, nI_eq, forall_eq, e_shl, e_bit, e_b0, e_b1, e_bn, e_andn, fa_or, fa_and, e_m1, e_nneg]
        repeat (first | refine And.intro (fun hh => absurd hh (by omega)) (fun _ => ?_) | refine And.intro (fun _ => ?_) (fun hh => absurd hh (by omega)) | refine And.intro (by omega) ?_)
        rw [rcX_s] at hag2
        refine s_grow irr sym hu hP hT2 hG hN hp (by omega) h16 (fun hR hcc p2 t' ht' => ?_) (fun hno p2 => ?_)
        · rw [hR, hcc, if_pos (by decide)] at hag2
          exact hag2 _ _ ht'
        · rw [if_neg (by rw [Bool.and_eq_true]; exact hno)] at hag2
          exact hag2 _ _ hT2
      · intro again2 pt2 t2 hT2
        unfold wp_X4_someIsFollowedBy_L33
        try simp (disch := omega) only [k_0, k_1, k_2, k_3, k_4, k_6, k_7, k_10, k_11, k_12, k_13, k_14, k_16, k_32, k_36, k_40, k_41, k_42, k_43, k_49, k_64, k_80, k_96, k_97, k_100, k_109, k_110, k_127, k_128, k_146, k_147, k_160, k_2304, k_4608, k_13824, nI_add, pk_mul, pk_sub, nI_clamp, q_in, nI_ltI, nI_leI, nI_eq, forall_eq, e_shl, e_bit, e_b0, e_b1, e_bn, e_andn, fa_or, fa_and, e_m1, e_nneg]
        repeat (first | refine And.intro (fun hh => absurd hh (by omega)) (fun _ => ?_) | refine And.intro (fun _ => ?_) (fun hh => absurd hh (by omega)) | refine And.intro (by omega) ?_)
        exact hkx _ _ (by rw [rcP_s]; exact hT2)
    have next : ¬ FACT fr k u w p → ∀ pt t', TA u t' (rcP fr k u (p + 1)) → again (nI (p + 1)) pt t' := fun hno pt t' ht' => hag _ _ ⟨ht', fun b hb => by
      by_cases e : b = p
      · subst e; exact hno
      · exact gN b (by omega)⟩
    refine s_open gT hN hp h16 (fun hR => br_f (by decide) ?_) (fun hR => br_t (by decide) (lets _ _ (next (fun hF => ?_))))
    · refine s_takeAll irr sym hP (by omega) ⟨Tm_lt u p, rfl⟩ hW hw (fun r T hd hT2 => br_f (by decide) (h1 ⟨p, hp, hR, ?_⟩ _ _)) (fun r T hd hT2 => br_t (by decide) (lets _ _ (next (fun hF => hF.2 hd))))
      rw [hd]
      simp
    · rw [hF.1] at hR; cases hR
  · rintro again pt t ⟨gT, gN⟩
    unfold wp_X4_someIsFollowedBy_L2
    try simp (disch := omega) only [k_0, k_1, k_2, k_3, k_4, k_6, k_7, k_10, k_11, k_12, k_13, k_14, k_16, k_32, k_36, k_40, k_41, k_42, k_43, k_49, k_64, k_80, k_96, k_97, k_100, k_109, k_110, k_127, k_128, k_146, k_147, k_160, k_2304, k_4608, k_13824, nI_add, pk_mul, pk_sub, nI_clamp, q_in, nI_ltI, nI_leI, nI_eq, forall_eq, e_shl, e_bit, e_b0, e_b1, e_bn, e_andn, fa_or, fa_and, e_m1, e_nneg]
    repeat (first | refine And.intro (fun hh => absurd hh (by omega)) (fun _ => ?_) | refine And.intro (fun _ => ?_) (fun hh => absurd hh (by omega)) | refine And.intro (by omega) ?_)
    exact h0 (fun ⟨b, hb, hF⟩ => gN b hb hF) _ _
/-- what is behind a beginning -/
theorem s_takesRest {ol : Int32} {v other hts cn st : Nat → Int32} {u : List Nat} {o : Nat} (ho : o < 6) (hV : WV v o u) (hu : ∀ x ∈ u, x < 6) (hN : wt u 6 ≤ 2304) (hc : CN u cn u.length) (hs : WG u st) {b : Nat} (hb : b < wt u 6) {K : Int32 → (Nat → Int32) → (Nat → Int32) → Prop} (hK : ∀ ot h, RW ot (rem u (tb (Tm u b))) → K (nI (rem u (tb (Tm u b))).length) ot h) : wp_X11_takesRest ol v other hts cn st (nI o) (nI b) K := by
  have h16 := hV.2.1
  unfold wp_X11_takesRest
  refine for_X11_takesRest_L7 _ _ _ _ (6) (fun i h => ∀ x, x < i → h x = nI (gn u b x)) ?_ ?_ (0) _ _ rfl (Nat.zero_le _) (fun x hx => absurd hx (Nat.not_lt_zero _))
  · intro again i h hi hJ hag
    unfold wp_X11_takesRest_L7
    try simp (disch := omega) only [k_0, k_1, k_2, k_3, k_4, k_6, k_7, k_10, k_11, k_12, k_13, k_14, k_16, k_32, k_36, k_40, k_41, k_42, k_43, k_49, k_64, k_80, k_96, k_97, k_100, k_109, k_110, k_127, k_128, k_146, k_147, k_160, k_2304, k_4608, k_13824, nI_add, pk_mul, pk_sub, nI_clamp, q_in, nI_ltI, nI_leI, nI_eq, forall_eq, e_shl, e_bit, e_b0, e_b1, e_bn, e_andn, fa_or, fa_and, e_m1, e_nneg]
    repeat (first | refine And.intro (fun hh => absurd hh (by omega)) (fun _ => ?_) | refine And.intro (fun _ => ?_) (fun hh => absurd hh (by omega)) | refine And.intro (by omega) ?_)
    refine s_gone h16 hN hc hs hb hi ⟨by omega, hag _ (fun x hx => ?_)⟩
    by_cases e : x = i
    · subst e; exact pk_us
    · rw [pk_un e]; exact hJ x (by omega)
  intro again h0 hJ0
  unfold wp_X11_takesRest_L7
  try simp (disch := omega) only [k_0, k_1, k_2, k_3, k_4, k_6, k_7, k_10, k_11, k_12, k_13, k_14, k_16, k_32, k_36, k_40, k_41, k_42, k_43, k_49, k_64, k_80, k_96, k_97, k_100, k_109, k_110, k_127, k_128, k_146, k_147, k_160, k_2304, k_4608, k_13824, nI_add, pk_mul, pk_sub, nI_clamp, q_in, nI_ltI, nI_leI, nI_eq, forall_eq, e_shl, e_bit, e_b0, e_b1, e_bn, e_andn, fa_or, fa_and, e_m1, e_nneg]
  repeat (first | refine And.intro (fun hh => absurd hh (by omega)) (fun _ => ?_) | refine And.intro (fun _ => ?_) (fun hh => absurd hh (by omega)) | refine And.intro (by omega) ?_)
  refine for_X11_takesRest_L33 _ _ _ (u.length) (fun i s ot h => s = nI (rem (u.take i) (tb (Tm u b))).length ∧ RW ot (rem (u.take i) (tb (Tm u b))) ∧ ∀ x, x < 6 → h x = nI (gn u b x - cntB u x i)) ?_ ?_ (0) _ _ _ _ rfl (Nat.zero_le _) (⟨by simp [rem_nil], fun j hj => by simp [rem_nil] at hj, fun x hx => hJ0 x hx⟩)
  · rintro again2 i s ot h hi ⟨rfl, g1, g2⟩ hag
    have ui := hu _ (getD_mem hi)
    have tl : (u.take i).length = i := by simp; omega
    have rl := rem_len_le (u.take i) (tb (Tm u b))
    have gle := gn_le u b (u.getD i 0)
    have cle := cntB_le u (u.getD i 0) u.length
    have e : rem (u.take (i + 1)) (tb (Tm u b)) = rem (u.take i) (tb (Tm u b)) ++ (if tb (Tm u b) i = true then [] else [u.getD i 0]) := by
      rw [take_snoc hi, rem_snoc, tl]
    rw [Tm_bit hi] at e
    unfold wp_X11_takesRest_L33
    try simp (disch := omega) only [k_0, k_1, k_2, k_3, k_4, k_6, k_7, k_10, k_11, k_12, k_13, k_14, k_16, k_32, k_36, k_40, k_41, k_42, k_43, k_49, k_64, k_80, k_96, k_97, k_100, k_109, k_110, k_127, k_128, k_146, k_147, k_160, k_2304, k_4608, k_13824, nI_add, pk_mul, pk_sub, nI_clamp, q_in, nI_ltI, nI_leI, nI_eq, forall_eq, e_shl, e_bit, e_b0, e_b1, e_bn, e_andn, fa_or, fa_and, e_m1, e_nneg]
    rw [hV.1, hV.2.2 i hi]
    try simp (disch := omega) only [k_0, k_1, k_2, k_3, k_4, k_6, k_7, k_10, k_11, k_12, k_13, k_14, k_16, k_32, k_36, k_40, k_41, k_42, k_43, k_49, k_64, k_80, k_96, k_97, k_100, k_109, k_110, k_127, k_128, k_146, k_147, k_160, k_2304, k_4608, k_13824, nI_add, pk_mul, pk_sub, nI_clamp, q_in, nI_ltI, nI_leI, nI_eq, forall_eq, e_shl, e_bit, e_b0, e_b1, e_bn, e_andn, fa_or, fa_and, e_m1, e_nneg]
    repeat (first | refine And.intro (fun hh => absurd hh (by omega)) (fun _ => ?_) | refine And.intro (fun _ => ?_) (fun hh => absurd hh (by omega)) | refine And.intro (by omega) ?_)
    rw [g2 _ ui]
    try simp (disch := omega) only [k_0, k_1, k_2, k_3, k_4, k_6, k_7, k_10, k_11, k_12, k_13, k_14, k_16, k_32, k_36, k_40, k_41, k_42, k_43, k_49, k_64, k_80, k_96, k_97, k_100, k_109, k_110, k_127, k_128, k_146, k_147, k_160, k_2304, k_4608, k_13824, nI_add, pk_mul, pk_sub, nI_clamp, q_in, nI_ltI, nI_leI, nI_eq, forall_eq, e_shl, e_bit, e_b0, e_b1, e_bn, e_andn, fa_or, fa_and, e_m1, e_nneg]
    refine ⟨fun q => ⟨by omega, ?_⟩, fun q => ⟨by omega, by omega, ?_⟩⟩
    · rw [decide_eq_false (by omega), if_neg (by decide)] at e
      refine hag _ _ _ ⟨by rw [e]; simp, by rw [e]; exact g1.push _, fun x hx => ?_⟩
      rw [g2 x hx, cntB_s]
      by_cases ex : u.getD i 0 = x
      · subst ex; rw [if_pos rfl]; congr 1; omega
      · rw [if_neg ex]
    · rw [decide_eq_true (by omega), if_pos rfl, List.append_nil] at e
      refine hag _ _ _ ⟨by rw [e], by rw [e]; exact g1, fun x hx => ?_⟩
      rw [cntB_s]
      by_cases ex : x = u.getD i 0
      · subst ex
        rw [pk_us, if_pos rfl, pk_sub (by omega)]
        congr 1
      · rw [pk_un ex, if_neg (fun q => ex q.symm)]; exact g2 x hx
  · rintro again2 s ot h ⟨rfl, g1, -⟩
    unfold wp_X11_takesRest_L33
    try simp (disch := omega) only [k_0, k_1, k_2, k_3, k_4, k_6, k_7, k_10, k_11, k_12, k_13, k_14, k_16, k_32, k_36, k_40, k_41, k_42, k_43, k_49, k_64, k_80, k_96, k_97, k_100, k_109, k_110, k_127, k_128, k_146, k_147, k_160, k_2304, k_4608, k_13824, nI_add, pk_mul, pk_sub, nI_clamp, q_in, nI_ltI, nI_leI, nI_eq, forall_eq, e_shl, e_bit, e_b0, e_b1, e_bn, e_andn, fa_or, fa_and, e_m1, e_nneg]
    rw [hV.1]
    try simp (disch := omega) only [k_0, k_1, k_2, k_3, k_4, k_6, k_7, k_10, k_11, k_12, k_13, k_14, k_16, k_32, k_36, k_40, k_41, k_42, k_43, k_49, k_64, k_80, k_96, k_97, k_100, k_109, k_110, k_127, k_128, k_146, k_147, k_160, k_2304, k_4608, k_13824, nI_add, pk_mul, pk_sub, nI_clamp, q_in, nI_ltI, nI_leI, nI_eq, forall_eq, e_shl, e_bit, e_b0, e_b1, e_bn, e_andn, fa_or, fa_and, e_m1, e_nneg]
    repeat (first | refine And.intro (fun hh => absurd hh (by omega)) (fun _ => ?_) | refine And.intro (fun _ => ?_) (fun hh => absurd hh (by omega)) | refine And.intro (by omega) ?_)
    rw [List.take_length] at g1 ⊢
    exact hK _ _ g1
def RE (u : List Nat) (r : Nat → Int32) (R : Nat → Bool) : Prop := ∀ b, b < wt u 6 → r b = bI (R b)
theorem M_isFactor {A_now_alphabet_count : Int32} {A_now_alphabet_free : Nat → Int32} {A_now_words_size : Nat → Int32} {A_now_words_letters : Nat → Nat → Int32} {A_now_recogniser_states : Int32} {A_now_recogniser_accepting : Int32} {A_now_recogniser_arrows : Nat → Int32} {A_prefixes_letters : Int32} {A_prefixes_size : Int32} {A_prefixes_places_letters : Int32} {A_prefixes_places_size : Int32} {A_prefixes_places_taken : Int32} {A_prefixes_places_letterAt : Nat → Int32} {A_prefixes_places_layerAt : Nat → Int32} {A_prefixes_places_before : Nat → Int32} {A_prefixes_places_placesOf : Nat → Int32} {A_prefixes_takenAt : Nat → Int32} {A_prefixes_weight : Nat → Int32} {B_v : Nat → Int32} {B_oneLength : Int32} {B_otherLength : Int32} {B_beginnings : Int32} {B_one : Nat → Int32} {B_other : Nat → Int32} {B_isGone : Nat → Int32} {B_heights : Nat → Int32} {B_count : Nat → Int32} {B_step : Nat → Int32} {B_before : Nat → Int32} {B_isReached : Nat → Int32} (x1 x2 : Int32) (hR : REL A_now_alphabet_count A_now_alphabet_free A_now_words_size A_now_words_letters A_now_recogniser_states A_now_recogniser_accepting A_now_recogniser_arrows B_v) {K : Int32 → Int32 → Int32 → Int32 → Int32 → Int32 → (Nat → Int32) → (Nat → Int32) → (Nat → Int32) → (Nat → Int32) → (Nat → Int32) → (Nat → Int32) → Prop} (hK : ∀ (r : Int32) A_prefixes_letters' A_prefixes_size' A_prefixes_places_letters' A_prefixes_places_size' A_prefixes_places_taken' A_prefixes_places_letterAt' A_prefixes_places_layerAt' A_prefixes_places_before' A_prefixes_places_placesOf' A_prefixes_takenAt' A_prefixes_weight', (∀ Q : Int32 → Int32 → Int32 → Int32 → (Nat → Int32) → (Nat → Int32) → (Nat → Int32) → (Nat → Int32) → (Nat → Int32) → (Nat → Int32) → (Nat → Int32) → (Nat → Int32) → Prop, (∀ B_oneLength' B_otherLength' B_beginnings' B_one' B_other' B_isGone' B_heights' B_count' B_step' B_before' B_isReached', Q r B_oneLength' B_otherLength' B_beginnings' B_one' B_other' B_isGone' B_heights' B_count' B_step' B_before' B_isReached') → wp_X11_isFactor B_oneLength B_otherLength B_beginnings B_v B_one B_other B_isGone B_heights B_count B_step B_before B_isReached x1 x2 Q) → K r A_prefixes_letters' A_prefixes_size' A_prefixes_places_letters' A_prefixes_places_size' A_prefixes_places_taken' A_prefixes_places_letterAt' A_prefixes_places_layerAt' A_prefixes_places_before' A_prefixes_places_placesOf' A_prefixes_takenAt' A_prefixes_weight') : wp_X10_isFactor A_now_alphabet_count A_now_alphabet_free A_now_words_size A_now_words_letters A_prefixes_letters A_prefixes_size A_prefixes_places_letters A_prefixes_places_size A_prefixes_places_taken A_prefixes_places_letterAt A_prefixes_places_layerAt A_prefixes_places_before A_prefixes_places_placesOf A_prefixes_takenAt A_prefixes_weight x1 x2 K := by
  have hR0 := hR
  obtain ⟨k, fr, W, n, ar, ac, hS, hA, hB⟩ := hR
  have hS0 := hS
  have hA0 := hA
  have hB0 := hB
  obtain ⟨hFR, hWS, hn1, hn6, har, hacl⟩ := hS
  obtain ⟨rfl, hF, hW, rfl, rfl, hAr⟩ := hA
  obtain ⟨hk0, hV, hWV, hn0, hac0, hArV, hAr6⟩ := hB
  have hk6 := hFR.2.1
  have hk2 := hFR.1
  have irr := hFR.irr
  have sym := hFR.sym
  unfold wp_X10_isFactor
  rcases in_cases x1 (n := 6) (by omega) with ⟨w, hw, rfl⟩ | hx
  · rcases in_cases x2 (n := 6) (by omega) with ⟨o, ho, rfl⟩ | hx
    · have ws1 := (hW w hw).1
      have wr1 := hW w hw
      rw [ws1] at wr1
      have wv1 := hWV w hw
      obtain ⟨l161, lk1⟩ := hWS w hw
      have lk61 : ∀ x ∈ W w, x < 6 := fun x h => Nat.lt_of_lt_of_le (lk1 x h) hk6
      have ws2 := (hW o ho).1
      have wr2 := hW o ho
      rw [ws2] at wr2
      have wv2 := hWV o ho
      obtain ⟨l162, lk2⟩ := hWS o ho
      have lk62 : ∀ x ∈ W o, x < 6 := fun x h => Nat.lt_of_lt_of_le (lk2 x h) hk6
      have hN := wt_le lk62 l162
      have ref : ∀ (r : Bool), (r = true ↔ ∃ b, b < wt (W o) 6 ∧ FACT fr k (W o) (W w) b) → ∀ Q : Int32 → Int32 → Int32 → Int32 → (Nat → Int32) → (Nat → Int32) → (Nat → Int32) → (Nat → Int32) → (Nat → Int32) → (Nat → Int32) → (Nat → Int32) → (Nat → Int32) → Prop, (∀ a b c d e g h i j l m, Q (bI r) a b c d e g h i j l m) → wp_X11_isFactor B_oneLength B_otherLength B_beginnings B_v B_one B_other B_isGone B_heights B_count B_step B_before B_isReached (nI w) (nI o) Q := by
        intro r hr Q hQ
        unfold wp_X11_isFactor
        refine s_isWord hw ?_
        (first | refine br_t (by decide) ?_ | refine br_f (by decide) ?_ | refine br_t' (by decide) ?_ | refine br_f' (by decide) ?_)
        refine s_isWord ho ?_
        (first | refine br_t (by decide) ?_ | refine br_f (by decide) ?_ | refine br_t' (by decide) ?_ | refine br_f' (by decide) ?_)
        refine s_takesOne ho wv2 (fun one h1 => s_findBeg lk62 h1 l162 (fun cn st bf hc hs hB => ?_))
        refine for_X11_isFactor_L27 _ _ (wt (W o) 6) (fun i t => ∀ j, j < i → t j = bI (decide (j = 0))) ?_ ?_ (0) _ _ rfl (Nat.zero_le _) (fun j hj => absurd hj (Nat.not_lt_zero _))
        · intro again i t hi hJ hag
          have put : ∀ y, y = bI (decide (i = 0)) → again (nI (i + 1)) (upd t i y) := fun y hy => hag _ (fun j hj => by
            by_cases e : j = i
            · subst e; rw [pk_us, hy]
            · rw [pk_un e]; exact hJ j (by omega))
          unfold wp_X11_isFactor_L27
          rw [vb_0, vb_1]
          try simp (disch := omega) only [k_0, k_1, k_2, k_3, k_4, k_6, k_7, k_10, k_11, k_12, k_13, k_14, k_16, k_32, k_36, k_40, k_41, k_42, k_43, k_49, k_64, k_80, k_96, k_97, k_100, k_109, k_110, k_127, k_128, k_146, k_147, k_160, k_2304, k_4608, k_13824, nI_add, pk_mul, pk_sub, nI_clamp, q_in, nI_ltI, nI_leI, nI_eq, forall_eq, e_shl, e_bit, e_b0, e_b1, e_bn, e_andn, fa_or, fa_and, e_m1, e_nneg]
          repeat (first | refine And.intro (fun hh => absurd hh (by omega)) (fun _ => ?_) | refine And.intro (fun _ => ?_) (fun hh => absurd hh (by omega)) | refine And.intro (by omega) ?_)
          refine ⟨fun q => ⟨by omega, put _ (by rw [decide_eq_false q]; rfl)⟩, fun q => ⟨by omega, put _ (by rw [decide_eq_true q]; rfl)⟩⟩
        intro again r0 hr0
        unfold wp_X11_isFactor_L27
        try simp (disch := omega) only [k_0, k_1, k_2, k_3, k_4, k_6, k_7, k_10, k_11, k_12, k_13, k_14, k_16, k_32, k_36, k_40, k_41, k_42, k_43, k_49, k_64, k_80, k_96, k_97, k_100, k_109, k_110, k_127, k_128, k_146, k_147, k_160, k_2304, k_4608, k_13824, nI_add, pk_mul, pk_sub, nI_clamp, q_in, nI_ltI, nI_leI, nI_eq, forall_eq, e_shl, e_bit, e_b0, e_b1, e_bn, e_andn, fa_or, fa_and, e_m1, e_nneg]
        repeat (first | refine And.intro (fun hh => absurd hh (by omega)) (fun _ => ?_) | refine And.intro (fun _ => ?_) (fun hh => absurd hh (by omega)) | refine And.intro (by omega) ?_)
        refine s_takesOne hw wv1 (fun one2 h2 => ?_)
        refine for_X11_isFactor_L63 _ _ _ _ _ _ _ _ _ _ (wt (W o) 6) (fun p _ _ _ _ t => RE (W o) t (rcP fr k (W o) p) ∧ ∀ b, b < p → ¬ FACT fr k (W o) (W w) b) ?_ ?_ (0) _ _ _ _ _ _ rfl (Nat.zero_le _) (⟨fun b hb => hr0 b hb, fun b hb => absurd hb (Nat.not_lt_zero _)⟩)
        · rintro again2 p ol ot gn2 ht t hp ⟨gT, gN⟩ hag
          unfold wp_X11_isFactor_L63
          try simp (disch := omega) only [k_0, k_1, k_2, k_3, k_4, k_6, k_7, k_10, k_11, k_12, k_13, k_14, k_16, k_32, k_36, k_40, k_41, k_42, k_43, k_49, k_64, k_80, k_96, k_97, k_100, k_109, k_110, k_127, k_128, k_146, k_147, k_160, k_2304, k_4608, k_13824, nI_add, pk_mul, pk_sub, nI_clamp, q_in, nI_ltI, nI_leI, nI_eq, forall_eq, e_shl, e_bit, e_b0, e_b1, e_bn, e_andn, fa_or, fa_and, e_m1, e_nneg]
          repeat (first | refine And.intro (fun hh => absurd hh (by omega)) (fun _ => ?_) | refine And.intro (fun _ => ?_) (fun hh => absurd hh (by omega)) | refine And.intro (by omega) ?_)
          have fin : ∀ t', RE (W o) t' (rcP fr k (W o) (p + 1)) → wp_X11_isFactor_J125 Q again2 (fun t_otherLength_27 t_other_28 t_isGone_29 t_heights_30 t_isReached_31 => Q (nI 1) (nI (W w).length) t_otherLength_27 (nI (wt (W o) 6)) one2 t_other_28 t_isGone_29 t_heights_30 cn st bf t_isReached_31) (fun t_otherLength_32 t_other_33 t_isGone_34 t_heights_35 t_isReached_36 => Q (nI 0) (nI (W w).length) t_otherLength_32 (nI (wt (W o) 6)) one2 t_other_33 t_isGone_34 t_heights_35 cn st bf t_isReached_36) (nI (W w).length) ol B_v one2 ot gn2 ht cn st t' (nI o) (nI p) := by
            intro t' ht'
            have next : ¬ FACT fr k (W o) (W w) p → ∀ a b c d, again2 (nI (p + 1)) a b c d t' := fun hno a b c d => hag _ _ _ _ _ ⟨ht', fun b hb => by
              by_cases e : b = p
              · subst e; exact hno
              · exact gN b (by omega)⟩
            unfold wp_X11_isFactor_J125
            try simp (disch := omega) only [k_0, k_1, k_2, k_3, k_4, k_6, k_7, k_10, k_11, k_12, k_13, k_14, k_16, k_32, k_36, k_40, k_41, k_42, k_43, k_49, k_64, k_80, k_96, k_97, k_100, k_109, k_110, k_127, k_128, k_146, k_147, k_160, k_2304, k_4608, k_13824, nI_add, pk_mul, pk_sub, nI_clamp, q_in, nI_ltI, nI_leI, nI_eq, forall_eq, e_shl, e_bit, e_b0, e_b1, e_bn, e_andn, fa_or, fa_and, e_m1, e_nneg]
            rw [ht' p hp, show rcP fr k (W o) (p + 1) p = rcP fr k (W o) p p by rw [rcP_s, rcX_p]]
            refine ⟨by omega, ?_⟩
            cases hR : rcP fr k (W o) p p with
            | false => exact br_t (by decide) (next (fun hF => by rw [hF.1] at hR; cases hR) _ _ _ _)
            | true =>
              refine br_f (by decide) (s_takesRest ho wv2 lk62 hN hc hs hp (fun ot2 h2' hR2 => ?_))
              have rm : ∀ x ∈ rem (W o) (tb (Tm (W o) p)), x < 6 := fun x hx => by
                obtain ⟨j, hj, -, e⟩ := (mem_rem _ _ _).mp hx
                rw [← e]
                exact lk62 _ (getD_mem hj)
              have rl := rem_len_le (W o) (tb (Tm (W o) p))
              refine s_divides irr hV lk61 rm h2 hR2 (by omega) (by omega) (fun r2 o2 g2 hd _ => br_f (by decide) ?_) (fun g2 hd => br_t (by decide) (next (fun hF => hF.2 hd) _ _ _ _))
              have hrt : r = true := hr.mpr ⟨p, hp, hR, by rw [hd]; simp⟩
              rw [hrt] at hQ
              exact hQ _ _ _ _ _ _ _ _ _ _ _
          refine for_X11_isFactor_L74 _ _ _ _ _ _ (k) (fun x t => RE (W o) t (rcX fr (W o) p (rcP fr k (W o) p) x)) ?_ ?_ (0) _ _ rfl (Nat.zero_le _) (gT)
          · intro again3 x t2 hx hT2 hag3
            unfold wp_X11_isFactor_L74
            rw [vb_1]
            try simp (disch := omega) only [k_0, k_1, k_2, k_3, k_4, k_6, k_7, k_10, k_11, k_12, k_13, k_14, k_16, k_32, k_36, k_40, k_41, k_42, k_43, k_49, k_64, k_80, k_96, k_97, k_100, k_109, k_110, k_127, k_128, k_146, k_147, k_160, k_2304, k_4608, k_13824, nI_add, pk_mul, pk_sub, nI_clamp, q_in, nI_ltI, nI_leI, nI_eq, forall_eq, e_shl, e_bit, e_b0, e_b1, e_bn, e_andn, fa_or, fa_and, e_m1, e_nneg]
            rw [hk0]
            try simp (disch := omega) only [k_0, k_1, k_2, k_3, k_4, k_6, k_7, k_10, k_11, k_12, k_13, k_14, k_16, k_32, k_36, k_40, k_41, k_42, k_43, k_49, k_64, k_80, k_96, k_97, k_100, k_109, k_110, k_127, k_128, k_146, k_147, k_160, k_2304, k_4608, k_13824, nI_add, pk_mul, pk_sub, nI_clamp, q_in, nI_ltI, nI_leI, nI_eq, forall_eq, e_shl, e_bit, e_b0, e_b1, e_bn, e_andn, fa_or, fa_and, e_m1, e_nneg]
            repeat (first | refine And.intro (fun hh => absurd hh (by omega)) (fun _ => ?_) | refine And.intro (fun _ => ?_) (fun hh => absurd hh (by omega)) | refine And.intro (by omega) ?_)
            rw [hT2 p hp, rcX_p]
            rw [rcX_s, rcX_p] at hag3
            cases hR : rcP fr k (W o) p p with
            | false =>
              refine br_t (by decide) (fin _ ?_)
              have : ∀ x, rcX fr (W o) p (rcP fr k (W o) p) x = rcP fr k (W o) p := by
                intro x
                induction x with
                | zero => rfl
                | succ x ih => rw [rcX_s, rcX_p, hR, Bool.false_and, if_neg (by decide), ih]
              rw [rcP_s, this]
              rw [this] at hT2
              exact hT2
            | true =>
              rw [hR] at hag3
              refine br_f (by decide) (s_canCome irr sym hk0 hV hk6 lk2 l162 hN hc hs hB hp (by omega) ?_)
              cases hcc : cc fr (W o) p x with
              | false =>
                rw [hcc, if_neg (by decide)] at hag3
                exact br_t (by decide) (hag3 _ hT2)
              | true =>
                rw [hcc, if_pos (by decide)] at hag3
                have hlt := cc_lt irr sym lk2 hp (by omega) hcc
                rw [hs x (by omega)]
                try simp (disch := omega) only [k_0, k_1, k_2, k_3, k_4, k_6, k_7, k_10, k_11, k_12, k_13, k_14, k_16, k_32, k_36, k_40, k_41, k_42, k_43, k_49, k_64, k_80, k_96, k_97, k_100, k_109, k_110, k_127, k_128, k_146, k_147, k_160, k_2304, k_4608, k_13824, nI_add, pk_mul, pk_sub, nI_clamp, q_in, nI_ltI, nI_leI, nI_eq, forall_eq, e_shl, e_bit, e_b0, e_b1, e_bn, e_andn, fa_or, fa_and, e_m1, e_nneg]
                refine br_f (by decide) ⟨by omega, by omega, hag3 _ (fun j hj => ?_)⟩
                by_cases e : j = p + wt (W o) x
                · rw [e, pk_us]; simp [bI]; rfl
                · rw [pk_un e, hT2 j hj]; simp [e]
          · intro again3 t2 hT2
            unfold wp_X11_isFactor_L74
            try simp (disch := omega) only [k_0, k_1, k_2, k_3, k_4, k_6, k_7, k_10, k_11, k_12, k_13, k_14, k_16, k_32, k_36, k_40, k_41, k_42, k_43, k_49, k_64, k_80, k_96, k_97, k_100, k_109, k_110, k_127, k_128, k_146, k_147, k_160, k_2304, k_4608, k_13824, nI_add, pk_mul, pk_sub, nI_clamp, q_in, nI_ltI, nI_leI, nI_eq, forall_eq, e_shl, e_bit, e_b0, e_b1, e_bn, e_andn, fa_or, fa_and, e_m1, e_nneg]
            rw [hk0]
            try simp (disch := omega) only [k_0, k_1, k_2, k_3, k_4, k_6, k_7, k_10, k_11, k_12, k_13, k_14, k_16, k_32, k_36, k_40, k_41, k_42, k_43, k_49, k_64, k_80, k_96, k_97, k_100, k_109, k_110, k_127, k_128, k_146, k_147, k_160, k_2304, k_4608, k_13824, nI_add, pk_mul, pk_sub, nI_clamp, q_in, nI_ltI, nI_leI, nI_eq, forall_eq, e_shl, e_bit, e_b0, e_b1, e_bn, e_andn, fa_or, fa_and, e_m1, e_nneg]
            repeat (first | refine And.intro (fun hh => absurd hh (by omega)) (fun _ => ?_) | refine And.intro (fun _ => ?_) (fun hh => absurd hh (by omega)) | refine And.intro (by omega) ?_)
            exact fin _ (by rw [rcP_s]; exact hT2)
        · rintro again2 ol ot gn2 ht t ⟨gT, gN⟩
          unfold wp_X11_isFactor_L63
          try simp (disch := omega) only [k_0, k_1, k_2, k_3, k_4, k_6, k_7, k_10, k_11, k_12, k_13, k_14, k_16, k_32, k_36, k_40, k_41, k_42, k_43, k_49, k_64, k_80, k_96, k_97, k_100, k_109, k_110, k_127, k_128, k_146, k_147, k_160, k_2304, k_4608, k_13824, nI_add, pk_mul, pk_sub, nI_clamp, q_in, nI_ltI, nI_leI, nI_eq, forall_eq, e_shl, e_bit, e_b0, e_b1, e_bn, e_andn, fa_or, fa_and, e_m1, e_nneg]
          repeat (first | refine And.intro (fun hh => absurd hh (by omega)) (fun _ => ?_) | refine And.intro (fun _ => ?_) (fun hh => absurd hh (by omega)) | refine And.intro (by omega) ?_)
          have hrf : r = false := by
            cases h : r with
            | false => rfl
            | true =>
              obtain ⟨b, hb, hF⟩ := hr.mp h
              exact absurd hF (gN b hb)
          rw [hrf] at hQ
          exact hQ _ _ _ _ _ _ _ _ _ _ _
      refine s_word hw ?_
      (first | refine br_t (by decide) ?_ | refine br_f (by decide) ?_ | refine br_t' (by decide) ?_ | refine br_f' (by decide) ?_)
      refine s_word ho ?_
      (first | refine br_t (by decide) ?_ | refine br_f (by decide) ?_ | refine br_t' (by decide) ?_ | refine br_f' (by decide) ?_)
      try simp (disch := omega) only [k_0, k_1, k_2, k_3, k_4, k_6, k_7, k_10, k_11, k_12, k_13, k_14, k_16, k_32, k_36, k_40, k_41, k_42, k_43, k_49, k_64, k_80, k_96, k_97, k_100, k_109, k_110, k_127, k_128, k_146, k_147, k_160, k_2304, k_4608, k_13824, nI_add, pk_mul, pk_sub, nI_clamp, q_in, nI_ltI, nI_leI, nI_eq, forall_eq, e_shl, e_bit, e_b0, e_b1, e_bn, e_andn, fa_or, fa_and, e_m1, e_nneg]
      rw [ws1, ws2]
      refine ⟨ho, s_begin4 hF hk6 wr2 lk2 l162 (fun a b c d t wg hP hT hG => ⟨hw, ?_⟩)⟩
      refine s_someIs irr sym hk6 lk2 l162 hN hP hT hG wr1 lk61 (fun hex p t => ?_) (fun hex p t => ?_)
      · refine s_num true ?_
        apply hK
        exact ref true ⟨fun _ => hex, fun _ => rfl⟩
      · refine s_num false ?_
        apply hK
        exact ref false ⟨fun q => by (cases q), fun q => absurd q hex⟩
    · refine s_word hw ?_
      (first | refine br_t (by decide) ?_ | refine br_f (by decide) ?_ | refine br_t' (by decide) ?_ | refine br_f' (by decide) ?_)
      refine s_wordN hx ?_
      (first | refine br_t (by decide) ?_ | refine br_f (by decide) ?_ | refine br_t' (by decide) ?_ | refine br_f' (by decide) ?_)
      apply hK
      intro Q hQ
      unfold wp_X11_isFactor
      refine s_isWord hw ?_
      (first | refine br_t (by decide) ?_ | refine br_f (by decide) ?_ | refine br_t' (by decide) ?_ | refine br_f' (by decide) ?_)
      refine s_isWordN hx ?_
      (first | refine br_t (by decide) ?_ | refine br_f (by decide) ?_ | refine br_t' (by decide) ?_ | refine br_f' (by decide) ?_)
      first | (apply hQ; done) | (apply hQ; exact hR0)
  · refine s_wordN hx ?_
    (first | refine br_t (by decide) ?_ | refine br_f (by decide) ?_ | refine br_t' (by decide) ?_ | refine br_f' (by decide) ?_)
    apply hK
    intro Q hQ
    unfold wp_X11_isFactor
    refine s_isWordN hx ?_
    (first | refine br_t (by decide) ?_ | refine br_f (by decide) ?_ | refine br_t' (by decide) ?_ | refine br_f' (by decide) ?_)
    first | (apply hQ; done) | (apply hQ; exact hR0)
