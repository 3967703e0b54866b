/-! matches -/
theorem M_matches {A_now_alphabet_count : Int32} {A_now_alphabet_free : Nat → Int32} {A_now_words_size : Nat → Int32} {A_now_words_letters : Nat → Nat → Int32} {A_now_recogniser_states : Int32} {A_now_recogniser_accepting : Int32} {A_now_recogniser_arrows : Nat → Int32} {A_text_size : Int32} {A_text_bytes : Nat → Int32} {A_prefixes_letters : Int32} {A_prefixes_size : Int32} {A_prefixes_places_letters : Int32} {A_prefixes_places_size : Int32} {A_prefixes_places_taken : Int32} {A_prefixes_places_letterAt : Nat → Int32} {A_prefixes_places_layerAt : Nat → Int32} {A_prefixes_places_before : Nat → Int32} {A_prefixes_places_placesOf : Nat → Int32} {A_prefixes_takenAt : Nat → Int32} {A_prefixes_weight : Nat → Int32} {A_tree_size : Int32} {A_tree_top : Int32} {A_tree_depth : Int32} {A_tree_kind : Nat → Int32} {A_tree_left : Nat → Int32} {A_tree_right : Nat → Int32} {A_tree_least : Nat → Int32} {A_tree_sums : Nat → Int32} {A_tree_products : Nat → Int32} {A_tree_items : Nat → Int32} {A_matcher_spots : Int32} {A_matcher_firsts : Nat → Int64} {A_matcher_lasts : Nat → Int64} {A_matcher_follows : Nat → Int64} {A_matcher_spotsOf : Nat → Int64} {A_matcher_endsAt : Nat → Int64} {A_matcher_next : Nat → Int64} {B_v : Nat → Int32} {B_length : Int32} {B_oneLength : Int32} {B_beginnings : Int32} {B_formLength : Int32} {B_waits : Int32} {B_states : Int32} {B_text : Nat → Int32} {B_one : Nat → Int32} {B_count : Nat → Int32} {B_step : Nat → Int32} {B_before : Nat → Int32} {B_form : Nat → Int32} {B_waiting : Nat → Int32} {B_on : Nat → Int32} {B_to : Nat → Int32} {B_free : Nat → Int32} {B_freeToo : Nat → Int32} {B_firsts : Nat → Int32} {B_lasts : Nat → Int32} {B_sets : Nat → Int64} {B_open : Nat → Int32} (x1 : Int32) (hR : REL A_now_alphabet_count A_now_alphabet_free A_now_words_size A_now_words_letters A_now_recogniser_states A_now_recogniser_accepting A_now_recogniser_arrows B_v) (hT : TX A_text_size A_text_bytes B_length B_text) {K : Int32 → Int32 → Int32 → Int32 → Int32 → Int32 → (Nat → Int32) → (Nat → Int32) → (Nat → Int32) → (Nat → Int32) → (Nat → Int32) → (Nat → Int32) → Int32 → Int32 → Int32 → (Nat → Int32) → (Nat → Int32) → (Nat → Int32) → (Nat → Int32) → (Nat → Int32) → (Nat → Int32) → (Nat → Int32) → Int32 → (Nat → Int64) → (Nat → Int64) → (Nat → Int64) → (Nat → Int64) → (Nat → Int64) → (Nat → Int64) → Prop} (hK : ∀ (r : Int32) A_prefixes_letters' A_prefixes_size' A_prefixes_places_letters' A_prefixes_places_size' A_prefixes_places_taken' A_prefixes_places_letterAt' A_prefixes_places_layerAt' A_prefixes_places_before' A_prefixes_places_placesOf' A_prefixes_takenAt' A_prefixes_weight' A_tree_size' A_tree_top' A_tree_depth' A_tree_kind' A_tree_left' A_tree_right' A_tree_least' A_tree_sums' A_tree_products' A_tree_items' A_matcher_spots' A_matcher_firsts' A_matcher_lasts' A_matcher_follows' A_matcher_spotsOf' A_matcher_endsAt' A_matcher_next', (∀ Q : Int32 → Int32 → Int32 → Int32 → Int32 → Int32 → (Nat → Int32) → (Nat → Int32) → (Nat → Int32) → (Nat → Int32) → (Nat → Int32) → (Nat → Int32) → (Nat → Int32) → (Nat → Int32) → (Nat → Int32) → (Nat → Int32) → (Nat → Int32) → (Nat → Int32) → (Nat → Int64) → (Nat → Int32) → Prop, (∀ B_oneLength' B_beginnings' B_formLength' B_waits' B_states' B_one' B_count' B_step' B_before' B_form' B_waiting' B_on' B_to' B_free' B_freeToo' B_firsts' B_lasts' B_sets' B_open', Q r B_oneLength' B_beginnings' B_formLength' B_waits' B_states' B_one' B_count' B_step' B_before' B_form' B_waiting' B_on' B_to' B_free' B_freeToo' B_firsts' B_lasts' B_sets' B_open') → wp_X11_matches B_length B_oneLength B_beginnings B_formLength B_waits B_states B_v B_text B_one B_count B_step B_before B_form B_waiting B_on B_to B_free B_freeToo B_firsts B_lasts B_sets B_open x1 Q) → K r A_prefixes_letters' A_prefixes_size' A_prefixes_places_letters' A_prefixes_places_size' A_prefixes_places_taken' A_prefixes_places_letterAt' A_prefixes_places_layerAt' A_prefixes_places_before' A_prefixes_places_placesOf' A_prefixes_takenAt' A_prefixes_weight' A_tree_size' A_tree_top' A_tree_depth' A_tree_kind' A_tree_left' A_tree_right' A_tree_least' A_tree_sums' A_tree_products' A_tree_items' A_matcher_spots' A_matcher_firsts' A_matcher_lasts' A_matcher_follows' A_matcher_spotsOf' A_matcher_endsAt' A_matcher_next') : wp_X10_matches A_now_alphabet_count A_now_alphabet_free A_now_words_size A_now_words_letters A_text_size A_text_bytes A_prefixes_letters A_prefixes_size A_prefixes_places_letters A_prefixes_places_size A_prefixes_places_taken A_prefixes_places_letterAt A_prefixes_places_layerAt A_prefixes_places_before A_prefixes_places_placesOf A_prefixes_takenAt A_prefixes_weight A_tree_size A_tree_top A_tree_depth A_tree_kind A_tree_left A_tree_right A_tree_least A_tree_sums A_tree_products A_tree_items A_matcher_spots A_matcher_firsts A_matcher_lasts A_matcher_follows A_matcher_spotsOf A_matcher_endsAt A_matcher_next x1 K := by
  have hR0 := hR
  obtain ⟨k, fr, W, n, ar, ac, hS, hA, hB⟩ := hR
  have hS0 := hS
  have hA0 := hA
  have hB0 := hB
  obtain ⟨hFR, hWS, hn1, hn6, har, hacl⟩ := hS
  obtain ⟨rfl, hF, hW, rfl, rfl, hAr⟩ := hA
  obtain ⟨hk0, hV, hWV, hn0, hac0, hArV, hAr6⟩ := hB
  have hk6 := hFR.2.1
  have hk2 := hFR.1
  have irr := hFR.irr
  have sym := hFR.sym
  obtain ⟨tx, h80, h128, rfl, rfl, hb, ht⟩ := hT
  unfold wp_X10_matches
  rcases in_cases x1 (n := 6) (by omega) with ⟨w, hw, rfl⟩ | hx
  · have ws1 := (hW w hw).1
    have wr1 := hW w hw
    rw [ws1] at wr1
    have wv1 := hWV w hw
    obtain ⟨l161, lk1⟩ := hWS w hw
    have lk61 : ∀ x ∈ W w, x < 6 := fun x h => Nat.lt_of_lt_of_le (lk1 x h) hk6
    refine s_word hw (br_f' (by decide) ?_)
    refine s_plant hk6 h80 h128 hb (fun hok d kd lf rt le sm pr it hN hle => ?_) (fun hok => ?_)
    · obtain ⟨ns0, l0, -, -, -, -, hst, hsg, hlen, -⟩ := nodes_ok hk6 h80 hok
      refine br_f' (by decide) ⟨(q_in (by omega)).mpr hw, ?_⟩
      rw [nI_clamp (by omega), ws1]
      refine s_begin4 hF hk6 wr1 lk1 l161 (fun a b c d t wg hP hT hG => ?_)
      refine s_fits irr sym lk1 l161 hk6 hsg hst hlen (fun j hj => SN_le h80 hj) hN hle hP hT hG (fun o1 o2 o3 o4 o5 o6 o7 o8 o9 => s_num _ ?_)
      apply hK
      intro Q hQ
      exact s_matchesR irr sym hk0 hV (by omega) hk6 h80 h128 ht hok hw wv1 lk1 (fun o1 o2 o3 o4 o5 o6 o7 o8 o9 o10 o11 o12 o13 o14 o15 o16 o17 o18 o19 => hQ _ _ _ _ _ _ _ _ _ _ _ _ _ _ _ _ _ _ _)
    · refine br_t' (by decide) ?_
      apply hK
      intro Q hQ
      unfold wp_X11_matches
      refine s_isWord hw (br_f' (by decide) ?_)
      refine s_faultOK hk0 (by omega) hk6 h80 h128 ht (fun q => absurd q hok) (fun _ i hi => ?_)
      refine br_f ?_ (hQ _ _ _ _ _ _ _ _ _ _ _ _ _ _ _ _ _ _ _)
      rw [k_0, nI_ltI (by omega) (by omega)]
      omega
  · refine s_wordN hx (br_t' (by decide) ?_)
    apply hK
    intro Q hQ
    unfold wp_X11_matches
    exact s_isWordN hx (br_t' (by decide) (hQ _ _ _ _ _ _ _ _ _ _ _ _ _ _ _ _ _ _ _))
