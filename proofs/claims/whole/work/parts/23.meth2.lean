/-! normal forms, layers, projections, likeness, products -/
theorem RW.push {o : Nat → Int32} {u : List Nat} (h : RW o u) (x : Nat) : RW (upd o u.length (nI x)) (u ++ [x]) := by
  intro i hi
  simp at hi
  by_cases e : i = u.length
  · subst e; rw [pk_us, getD_last]
  · rw [pk_un e, h i (by omega), getD_app (by omega)]
theorem RW.left {o : Nat → Int32} {u w : List Nat} (h : RW o (u ++ w)) : RW o u := fun i hi => by rw [h i (by simp; omega), getD_app hi]
theorem M_normal {A_now_alphabet_count : Int32} {A_now_alphabet_free : Nat → Int32} {A_now_words_size : Nat → Int32} {A_now_words_letters : Nat → Nat → Int32} {A_now_recogniser_states : Int32} {A_now_recogniser_accepting : Int32} {A_now_recogniser_arrows : Nat → Int32} {A_draft_size : Int32} {A_draft_letters : Nat → Int32} {A_places_letters : Int32} {A_places_size : Int32} {A_places_taken : Int32} {A_places_letterAt : Nat → Int32} {A_places_layerAt : Nat → Int32} {A_places_before : Nat → Int32} {A_places_placesOf : Nat → Int32} {B_v : Nat → Int32} {B_oneLength : Int32} {B_madeLength : Int32} {B_one : Nat → Int32} {B_made : Nat → Int32} {B_isGone : Nat → Int32} (x1 x2 : Int32) (hR : REL A_now_alphabet_count A_now_alphabet_free A_now_words_size A_now_words_letters A_now_recogniser_states A_now_recogniser_accepting A_now_recogniser_arrows B_v) {K : Int32 → Int32 → (Nat → Int32) → Int32 → Int32 → Int32 → (Nat → Int32) → (Nat → Int32) → (Nat → Int32) → (Nat → Int32) → Prop} (hK : ∀ (r : Int32) A_draft_size' A_draft_letters' A_places_letters' A_places_size' A_places_taken' A_places_letterAt' A_places_layerAt' A_places_before' A_places_placesOf', (∀ Q : Int32 → Int32 → Int32 → (Nat → Int32) → (Nat → Int32) → (Nat → Int32) → Prop, (∀ B_oneLength' B_madeLength' B_one' B_made' B_isGone', Q r B_oneLength' B_madeLength' B_one' B_made' B_isGone') → wp_X11_normal B_oneLength B_madeLength B_v B_one B_made B_isGone x1 x2 Q) → K r A_draft_size' A_draft_letters' A_places_letters' A_places_size' A_places_taken' A_places_letterAt' A_places_layerAt' A_places_before' A_places_placesOf') : wp_X10_normal A_now_alphabet_count A_now_alphabet_free A_now_words_size A_now_words_letters A_draft_size A_draft_letters A_places_letters A_places_size A_places_taken A_places_letterAt A_places_layerAt A_places_before A_places_placesOf x1 x2 K := by
  have hR0 := hR
  obtain ⟨k, fr, W, n, ar, ac, hS, hA, hB⟩ := hR
  have hS0 := hS
  have hA0 := hA
  have hB0 := hB
  obtain ⟨hFR, hWS, hn1, hn6, har, hacl⟩ := hS
  obtain ⟨rfl, hF, hW, rfl, rfl, hAr⟩ := hA
  obtain ⟨hk0, hV, hWV, hn0, hac0, hArV, hAr6⟩ := hB
  have hk6 := hFR.2.1
  have hk2 := hFR.1
  have irr := hFR.irr
  have sym := hFR.sym
  unfold wp_X10_normal
  rcases in_cases x1 (n := 6) (by omega) with ⟨w, hw, rfl⟩ | hx
  · have ws1 := (hW w hw).1
    have wr1 := hW w hw
    rw [ws1] at wr1
    have wv1 := hWV w hw
    obtain ⟨l161, lk1⟩ := hWS w hw
    have lk61 : ∀ x ∈ W w, x < 6 := fun x h => Nat.lt_of_lt_of_le (lk1 x h) hk6
    have nl := nf_len (fr := fr) lk1
    have nk : ∀ x ∈ nf fr k (W w), x < 6 := fun x h => Nat.lt_of_lt_of_le (nf_lt lk1 x h) hk6
    refine s_word hw ?_
    (first | refine br_t (by decide) ?_ | refine br_f (by decide) ?_ | refine br_t' (by decide) ?_ | refine br_f' (by decide) ?_)
    refine s_layW hw hF hk6 (hW w hw) lk1 (fun a b c d hP => ?_)
    refine s_writeRest (TK.start _) l161 irr sym hk6 lk1 hP (fun T' lt' hl => ?_)
    rcases in_cases x2 (n := (nf fr k (W w)).length) (by omega) with ⟨i, hi, rfl⟩ | hx
    · refine s_lon hl nk hi ?_
      apply hK
      intro Q hQ
      unfold wp_X11_normal
      refine s_isWord hw ?_
      (first | refine br_t (by decide) ?_ | refine br_f (by decide) ?_ | refine br_t' (by decide) ?_ | refine br_f' (by decide) ?_)
      refine s_takesOne hw wv1 (fun one ho => s_normalizes irr hV hk6 lk1 ho (by omega) (by omega) (by decide) (fun md g hm => ?_))
      refine s_idx hi (by omega) ?_
      (first | refine br_t (by decide) ?_ | refine br_f (by decide) ?_ | refine br_t' (by decide) ?_ | refine br_f' (by decide) ?_)
      try simp (disch := omega) only [k_0, k_1, k_2, k_3, k_4, k_6, k_7, k_10, k_11, k_12, k_13, k_14, k_16, k_32, k_36, k_40, k_41, k_42, k_43, k_49, k_64, k_80, k_96, k_97, k_100, k_109, k_110, k_127, k_128, k_146, k_147, k_160, k_2304, k_4608, k_13824, nI_add, pk_mul, pk_sub, nI_clamp, q_in, nI_ltI, nI_leI, nI_eq, forall_eq, e_shl, e_bit, e_b0, e_b1, e_bn, e_andn, fa_or, fa_and, e_m1, e_nneg]
      rw [hm i hi]
      refine ⟨by omega, ?_⟩
      first | (apply hQ; done) | (apply hQ; exact hR0)
    · refine s_lonN (by omega) hx ?_
      apply hK
      intro Q hQ
      unfold wp_X11_normal
      refine s_isWord hw ?_
      (first | refine br_t (by decide) ?_ | refine br_f (by decide) ?_ | refine br_t' (by decide) ?_ | refine br_f' (by decide) ?_)
      refine s_takesOne hw wv1 (fun one ho => s_normalizes irr hV hk6 lk1 ho (by omega) (by omega) (by decide) (fun md g hm => ?_))
      refine s_idxN (by omega) hx ?_
      (first | refine br_t (by decide) ?_ | refine br_f (by decide) ?_ | refine br_t' (by decide) ?_ | refine br_f' (by decide) ?_)
      first | (apply hQ; done) | (apply hQ; exact hR0)
  · refine s_wordN hx ?_
    (first | refine br_t (by decide) ?_ | refine br_f (by decide) ?_ | refine br_t' (by decide) ?_ | refine br_f' (by decide) ?_)
    apply hK
    intro Q hQ
    unfold wp_X11_normal
    refine s_isWordN hx ?_
    (first | refine br_t (by decide) ?_ | refine br_f (by decide) ?_ | refine br_t' (by decide) ?_ | refine br_f' (by decide) ?_)
    first | (apply hQ; done) | (apply hQ; exact hR0)
theorem M_layers {A_now_alphabet_count : Int32} {A_now_alphabet_free : Nat → Int32} {A_now_words_size : Nat → Int32} {A_now_words_letters : Nat → Nat → Int32} {A_now_recogniser_states : Int32} {A_now_recogniser_accepting : Int32} {A_now_recogniser_arrows : Nat → Int32} {A_places_letters : Int32} {A_places_size : Int32} {A_places_taken : Int32} {A_places_letterAt : Nat → Int32} {A_places_layerAt : Nat → Int32} {A_places_before : Nat → Int32} {A_places_placesOf : Nat → Int32} {B_v : Nat → Int32} {B_oneLength : Int32} {B_one : Nat → Int32} {B_heights : Nat → Int32} (x1 : Int32) (hR : REL A_now_alphabet_count A_now_alphabet_free A_now_words_size A_now_words_letters A_now_recogniser_states A_now_recogniser_accepting A_now_recogniser_arrows B_v) {K : Int32 → Int32 → Int32 → Int32 → (Nat → Int32) → (Nat → Int32) → (Nat → Int32) → (Nat → Int32) → Prop} (hK : ∀ (r : Int32) A_places_letters' A_places_size' A_places_taken' A_places_letterAt' A_places_layerAt' A_places_before' A_places_placesOf', (∀ Q : Int32 → Int32 → (Nat → Int32) → (Nat → Int32) → Prop, (∀ B_oneLength' B_one' B_heights', Q r B_oneLength' B_one' B_heights') → wp_X11_layers B_oneLength B_v B_one B_heights x1 Q) → K r A_places_letters' A_places_size' A_places_taken' A_places_letterAt' A_places_layerAt' A_places_before' A_places_placesOf') : wp_X10_layers A_now_alphabet_count A_now_alphabet_free A_now_words_size A_now_words_letters A_places_letters A_places_size A_places_taken A_places_letterAt A_places_layerAt A_places_before A_places_placesOf x1 K := by
  have hR0 := hR
  obtain ⟨k, fr, W, n, ar, ac, hS, hA, hB⟩ := hR
  have hS0 := hS
  have hA0 := hA
  have hB0 := hB
  obtain ⟨hFR, hWS, hn1, hn6, har, hacl⟩ := hS
  obtain ⟨rfl, hF, hW, rfl, rfl, hAr⟩ := hA
  obtain ⟨hk0, hV, hWV, hn0, hac0, hArV, hAr6⟩ := hB
  have hk6 := hFR.2.1
  have hk2 := hFR.1
  have irr := hFR.irr
  have sym := hFR.sym
  unfold wp_X10_layers
  rcases in_cases x1 (n := 6) (by omega) with ⟨w, hw, rfl⟩ | hx
  · have ws1 := (hW w hw).1
    have wr1 := hW w hw
    rw [ws1] at wr1
    have wv1 := hWV w hw
    obtain ⟨l161, lk1⟩ := hWS w hw
    have lk61 : ∀ x ∈ W w, x < 6 := fun x h => Nat.lt_of_lt_of_le (lk1 x h) hk6
    refine s_word hw ?_
    (first | refine br_t (by decide) ?_ | refine br_f (by decide) ?_ | refine br_t' (by decide) ?_ | refine br_f' (by decide) ?_)
    refine s_layW hw hF hk6 (hW w hw) lk1 (fun a b c d hP => ?_)
    refine s_countLayers (by omega) hP ?_
    apply hK
    intro Q hQ
    unfold wp_X11_layers
    refine s_isWord hw ?_
    (first | refine br_t (by decide) ?_ | refine br_f (by decide) ?_ | refine br_t' (by decide) ?_ | refine br_f' (by decide) ?_)
    refine s_takesOne hw wv1 (fun one ho => s_findLayers sym hV lk61 ho l161 (fun h' _ => ?_))
    first | (apply hQ; done) | (apply hQ; exact hR0)
  · refine s_wordN hx ?_
    (first | refine br_t (by decide) ?_ | refine br_f (by decide) ?_ | refine br_t' (by decide) ?_ | refine br_f' (by decide) ?_)
    apply hK
    intro Q hQ
    unfold wp_X11_layers
    refine s_isWordN hx ?_
    (first | refine br_t (by decide) ?_ | refine br_f (by decide) ?_ | refine br_t' (by decide) ?_ | refine br_f' (by decide) ?_)
    first | (apply hQ; done) | (apply hQ; exact hR0)
theorem M_layer {A_now_alphabet_count : Int32} {A_now_alphabet_free : Nat → Int32} {A_now_words_size : Nat → Int32} {A_now_words_letters : Nat → Nat → Int32} {A_now_recogniser_states : Int32} {A_now_recogniser_accepting : Int32} {A_now_recogniser_arrows : Nat → Int32} {A_places_letters : Int32} {A_places_size : Int32} {A_places_taken : Int32} {A_places_letterAt : Nat → Int32} {A_places_layerAt : Nat → Int32} {A_places_before : Nat → Int32} {A_places_placesOf : Nat → Int32} {B_v : Nat → Int32} {B_oneLength : Int32} {B_one : Nat → Int32} {B_heights : Nat → Int32} (x1 x2 : Int32) (hR : REL A_now_alphabet_count A_now_alphabet_free A_now_words_size A_now_words_letters A_now_recogniser_states A_now_recogniser_accepting A_now_recogniser_arrows B_v) {K : Int32 → Int32 → Int32 → Int32 → (Nat → Int32) → (Nat → Int32) → (Nat → Int32) → (Nat → Int32) → Prop} (hK : ∀ (r : Int32) A_places_letters' A_places_size' A_places_taken' A_places_letterAt' A_places_layerAt' A_places_before' A_places_placesOf', (∀ Q : Int32 → Int32 → (Nat → Int32) → (Nat → Int32) → Prop, (∀ B_oneLength' B_one' B_heights', Q r B_oneLength' B_one' B_heights') → wp_X11_layer B_oneLength B_v B_one B_heights x1 x2 Q) → K r A_places_letters' A_places_size' A_places_taken' A_places_letterAt' A_places_layerAt' A_places_before' A_places_placesOf') : wp_X10_layer A_now_alphabet_count A_now_alphabet_free A_now_words_size A_now_words_letters A_places_letters A_places_size A_places_taken A_places_letterAt A_places_layerAt A_places_before A_places_placesOf x1 x2 K := by
  have hR0 := hR
  obtain ⟨k, fr, W, n, ar, ac, hS, hA, hB⟩ := hR
  have hS0 := hS
  have hA0 := hA
  have hB0 := hB
  obtain ⟨hFR, hWS, hn1, hn6, har, hacl⟩ := hS
  obtain ⟨rfl, hF, hW, rfl, rfl, hAr⟩ := hA
  obtain ⟨hk0, hV, hWV, hn0, hac0, hArV, hAr6⟩ := hB
  have hk6 := hFR.2.1
  have hk2 := hFR.1
  have irr := hFR.irr
  have sym := hFR.sym
  unfold wp_X10_layer
  rcases in_cases x1 (n := 6) (by omega) with ⟨w, hw, rfl⟩ | hx
  · have ws1 := (hW w hw).1
    have wr1 := hW w hw
    rw [ws1] at wr1
    have wv1 := hWV w hw
    obtain ⟨l161, lk1⟩ := hWS w hw
    have lk61 : ∀ x ∈ W w, x < 6 := fun x h => Nat.lt_of_lt_of_le (lk1 x h) hk6
    have ll := layN_le _ (hN_le fr (W w) (W w).length) (W w).length
    refine s_word hw ?_
    (first | refine br_t (by decide) ?_ | refine br_f (by decide) ?_ | refine br_t' (by decide) ?_ | refine br_f' (by decide) ?_)
    refine s_layW hw hF hk6 (hW w hw) lk1 (fun a b c d hP => ?_)
    rcases in_cases x2 (n := layN (hN fr (W w) (W w).length) (W w).length) (by omega) with ⟨l, hl, rfl⟩ | hx
    · refine br_f (nI_pos (by omega)) (s_countLayers (by omega) hP (br_t (nI_lt hl (by omega)) (s_lettersOfLayer (by omega) lk61 hP (by omega) ?_)))
      apply hK
      intro Q hQ
      unfold wp_X11_layer
      refine s_isWord hw ?_
      (first | refine br_t (by decide) ?_ | refine br_f (by decide) ?_ | refine br_t' (by decide) ?_ | refine br_f' (by decide) ?_)
      refine s_takesOne hw wv1 (fun one ho => s_findLayers sym hV lk61 ho l161 (fun h' hh => ?_))
      refine s_idx hl (by omega) ?_
      (first | refine br_t (by decide) ?_ | refine br_f (by decide) ?_ | refine br_t' (by decide) ?_ | refine br_f' (by decide) ?_)
      refine s_layerNow lk61 ho l161 hh (by omega) ?_
      first | (apply hQ; done) | (apply hQ; exact hR0)
    · have fin : ∀ a b c d, K (-5) (nI k) (nI (W w).length) (nI 0) a b c d := by
        intro a b c d
        apply hK
        intro Q hQ
        unfold wp_X11_layer
        refine s_isWord hw ?_
        (first | refine br_t (by decide) ?_ | refine br_f (by decide) ?_ | refine br_t' (by decide) ?_ | refine br_f' (by decide) ?_)
        refine s_takesOne hw wv1 (fun one ho => s_findLayers sym hV lk61 ho l161 (fun h' hh => ?_))
        refine s_idxN (by omega) hx ?_
        (first | refine br_t (by decide) ?_ | refine br_f (by decide) ?_ | refine br_t' (by decide) ?_ | refine br_f' (by decide) ?_)
        first | (apply hQ; done) | (apply hQ; exact hR0)
      rcases in_not (by omega) hx with q | q
      · exact br_t q (fin _ _ _ _)
      · refine ⟨fun _ => fin _ _ _ _, fun _ => s_countLayers (by omega) hP (br_f ?_ (fin _ _ _ _))⟩
        intro h
        rw [fa_lt] at h
        rw [fa_le] at q
        omega
  · refine s_wordN hx ?_
    (first | refine br_t (by decide) ?_ | refine br_f (by decide) ?_ | refine br_t' (by decide) ?_ | refine br_f' (by decide) ?_)
    apply hK
    intro Q hQ
    unfold wp_X11_layer
    refine s_isWordN hx ?_
    (first | refine br_t (by decide) ?_ | refine br_f (by decide) ?_ | refine br_t' (by decide) ?_ | refine br_f' (by decide) ?_)
    first | (apply hQ; done) | (apply hQ; exact hR0)
def pjl (u : List Nat) (a b i : Nat) : List Nat := (u.take i).filter (fun c => c == a || c == b)
theorem pjl_s {u : List Nat} {a b i : Nat} (h : i < u.length) : pjl u a b (i + 1) = if u.getD i 0 = a ∨ u.getD i 0 = b then pjl u a b i ++ [u.getD i 0] else pjl u a b i := by
  unfold pjl
  rw [take_snoc h, List.filter_append]
  by_cases e : u.getD i 0 = a ∨ u.getD i 0 = b
  · rw [if_pos e, List.filter_cons, if_pos (by simp only [Bool.or_eq_true, beq_iff_eq]; exact e)]
    rfl
  · rw [if_neg e, List.filter_cons, if_neg (by simp only [Bool.or_eq_true, beq_iff_eq]; exact e)]
    simp
theorem pjl_le (u : List Nat) (a b : Nat) : ∀ i, (pjl u a b i).length ≤ i := fun i => by
  unfold pjl
  have h1 := List.length_filter_le (fun c => c == a || c == b) (u.take i)
  have h2 := List.length_take_le i u
  omega
theorem pjl_mono {u : List Nat} {a b : Nat} : ∀ {j i : Nat}, i ≤ u.length → j ≤ i → ∀ m, m < (pjl u a b j).length → m < (pjl u a b i).length ∧ (pjl u a b i).getD m 0 = (pjl u a b j).getD m 0 := by
  intro j i hi hj
  obtain ⟨d, rfl⟩ : ∃ d, i = j + d := ⟨i - j, by omega⟩
  clear hj
  induction d with
  | zero => intro m hm; exact ⟨hm, rfl⟩
  | succ d ih =>
    intro m hm
    obtain ⟨h1, h2⟩ := ih (by omega) m hm
    rw [← Nat.add_assoc, pjl_s (by omega)]
    split
    · exact ⟨by simp; omega, by rw [getD_app h1, h2]⟩
    · exact ⟨h1, h2⟩
theorem M_projected {A_now_alphabet_count : Int32} {A_now_alphabet_free : Nat → Int32} {A_now_words_size : Nat → Int32} {A_now_words_letters : Nat → Nat → Int32} {A_now_recogniser_states : Int32} {A_now_recogniser_accepting : Int32} {A_now_recogniser_arrows : Nat → Int32} {A_draft_size : Int32} {A_draft_letters : Nat → Int32} {B_v : Nat → Int32} (x1 x2 x3 x4 : Int32) (hR : REL A_now_alphabet_count A_now_alphabet_free A_now_words_size A_now_words_letters A_now_recogniser_states A_now_recogniser_accepting A_now_recogniser_arrows B_v) {K : Int32 → Int32 → (Nat → Int32) → Prop} (hK : ∀ (r : Int32) A_draft_size' A_draft_letters', (∀ Q : Int32 → Prop, (Q r) → wp_X11_projected B_v x1 x2 x3 x4 Q) → K r A_draft_size' A_draft_letters') : wp_X10_projected A_now_alphabet_count A_now_words_size A_now_words_letters A_draft_size A_draft_letters x1 x2 x3 x4 K := by
  have hR0 := hR
  obtain ⟨k, fr, W, n, ar, ac, hS, hA, hB⟩ := hR
  have hS0 := hS
  have hA0 := hA
  have hB0 := hB
  obtain ⟨hFR, hWS, hn1, hn6, har, hacl⟩ := hS
  obtain ⟨rfl, hF, hW, rfl, rfl, hAr⟩ := hA
  obtain ⟨hk0, hV, hWV, hn0, hac0, hArV, hAr6⟩ := hB
  have hk6 := hFR.2.1
  have hk2 := hFR.1
  have irr := hFR.irr
  have sym := hFR.sym
  unfold wp_X10_projected
  rcases in_cases x1 (n := 6) (by omega) with ⟨w, hw, rfl⟩ | hx
  · rcases in_cases x2 (n := k) (by omega) with ⟨a, ha, rfl⟩ | hx
    · rcases in_cases x3 (n := k) (by omega) with ⟨b, hb, rfl⟩ | hx
      · have ws1 := (hW w hw).1
        have wr1 := hW w hw
        rw [ws1] at wr1
        have wv1 := hWV w hw
        obtain ⟨l161, lk1⟩ := hWS w hw
        have lk61 : ∀ x ∈ W w, x < 6 := fun x h => Nat.lt_of_lt_of_le (lk1 x h) hk6
        have pl := pjl_le (W w) a b (W w).length
        have pk : ∀ x ∈ pjl (W w) a b (W w).length, x < 6 := fun x hx => lk61 x (List.mem_of_mem_take (List.mem_filter.mp hx).1)
        refine s_word hw ?_
        (first | refine br_t (by decide) ?_ | refine br_f (by decide) ?_ | refine br_t' (by decide) ?_ | refine br_f' (by decide) ?_)
        refine s_has hk6 ha ?_
        (first | refine br_t (by decide) ?_ | refine br_f (by decide) ?_ | refine br_t' (by decide) ?_ | refine br_f' (by decide) ?_)
        refine s_has hk6 hb ?_
        (first | refine br_t (by decide) ?_ | refine br_f (by decide) ?_ | refine br_t' (by decide) ?_ | refine br_f' (by decide) ?_)
        unfold wp_X9_empty
        refine ⟨(q_in (by omega)).mpr hw, ?_⟩
        refine for_X10_projected_L58 _ _ _ _ _ _ ((W w).length) (fun i s l => s = nI (pjl (W w) a b i).length ∧ WR s l (pjl (W w) a b i)) ?_ ?_ (0) _ _ _ rfl (Nat.zero_le _) (⟨rfl, rfl, by simp [pjl], fun i hi => absurd hi (Nat.not_lt_zero _)⟩)
        · rintro again i s l hi ⟨rfl, hl⟩ hag
          have ui := lk61 _ (getD_mem hi)
          have p1 := pjl_le (W w) a b i
          unfold wp_X10_projected_L58 wp_X10_projected_J89
          try simp (disch := omega) only [k_0, k_1, k_2, k_3, k_4, k_6, k_7, k_10, k_11, k_12, k_13, k_14, k_16, k_32, k_36, k_40, k_41, k_42, k_43, k_49, k_64, k_80, k_96, k_97, k_100, k_109, k_110, k_127, k_128, k_146, k_147, k_160, k_2304, k_4608, k_13824, nI_add, pk_mul, pk_sub, nI_clamp, q_in, nI_ltI, nI_leI, nI_eq, forall_eq, e_shl, e_bit, e_b0, e_b1, e_bn, e_andn, fa_or, fa_and, e_m1, e_nneg]
          rw [ws1]
          try simp (disch := omega) only [k_0, k_1, k_2, k_3, k_4, k_6, k_7, k_10, k_11, k_12, k_13, k_14, k_16, k_32, k_36, k_40, k_41, k_42, k_43, k_49, k_64, k_80, k_96, k_97, k_100, k_109, k_110, k_127, k_128, k_146, k_147, k_160, k_2304, k_4608, k_13824, nI_add, pk_mul, pk_sub, nI_clamp, q_in, nI_ltI, nI_leI, nI_eq, forall_eq, e_shl, e_bit, e_b0, e_b1, e_bn, e_andn, fa_or, fa_and, e_m1, e_nneg]
          repeat (first | refine And.intro (fun hh => absurd hh (by omega)) (fun _ => ?_) | refine And.intro (fun _ => ?_) (fun hh => absurd hh (by omega)) | refine And.intro (by omega) ?_)
          refine s_at wr1 hi ?_
          try simp (disch := omega) only [k_0, k_1, k_2, k_3, k_4, k_6, k_7, k_10, k_11, k_12, k_13, k_14, k_16, k_32, k_36, k_40, k_41, k_42, k_43, k_49, k_64, k_80, k_96, k_97, k_100, k_109, k_110, k_127, k_128, k_146, k_147, k_160, k_2304, k_4608, k_13824, nI_add, pk_mul, pk_sub, nI_clamp, q_in, nI_ltI, nI_leI, nI_eq, forall_eq, e_shl, e_bit, e_b0, e_b1, e_bn, e_andn, fa_or, fa_and, e_m1, e_nneg]
          rw [pjl_s hi] at hag
          have push : (W w).getD i 0 = a ∨ (W w).getD i 0 = b → wp_X9_push (nI (pjl (W w) a b i).length) l (nI ((W w).getD i 0)) (fun s l => again (nI (i + 1)) s l) := by
            intro e
            rw [if_pos e] at hag
            exact s_push hl (by omega) (fun l' hl' => hag _ _ ⟨rfl, hl'⟩)
          refine ⟨fun e => push (Or.inl e), fun e => ⟨fun e2 => ?_, fun e2 => push (Or.inr e2)⟩⟩
          rw [if_neg (by rintro (q | q); exact e q; exact e2 q)] at hag
          exact hag _ _ ⟨rfl, hl⟩
        · rintro again s l ⟨rfl, hl⟩
          unfold wp_X10_projected_L58
          try simp (disch := omega) only [k_0, k_1, k_2, k_3, k_4, k_6, k_7, k_10, k_11, k_12, k_13, k_14, k_16, k_32, k_36, k_40, k_41, k_42, k_43, k_49, k_64, k_80, k_96, k_97, k_100, k_109, k_110, k_127, k_128, k_146, k_147, k_160, k_2304, k_4608, k_13824, nI_add, pk_mul, pk_sub, nI_clamp, q_in, nI_ltI, nI_leI, nI_eq, forall_eq, e_shl, e_bit, e_b0, e_b1, e_bn, e_andn, fa_or, fa_and, e_m1, e_nneg]
          rw [ws1]
          try simp (disch := omega) only [k_0, k_1, k_2, k_3, k_4, k_6, k_7, k_10, k_11, k_12, k_13, k_14, k_16, k_32, k_36, k_40, k_41, k_42, k_43, k_49, k_64, k_80, k_96, k_97, k_100, k_109, k_110, k_127, k_128, k_146, k_147, k_160, k_2304, k_4608, k_13824, nI_add, pk_mul, pk_sub, nI_clamp, q_in, nI_ltI, nI_leI, nI_eq, forall_eq, e_shl, e_bit, e_b0, e_b1, e_bn, e_andn, fa_or, fa_and, e_m1, e_nneg]
          repeat (first | refine And.intro (fun hh => absurd hh (by omega)) (fun _ => ?_) | refine And.intro (fun _ => ?_) (fun hh => absurd hh (by omega)) | refine And.intro (by omega) ?_)
          have ref : ∀ (r : Int32), ((∃ m, m < (pjl (W w) a b (W w).length).length ∧ x4 = nI m ∧ r = nI ((pjl (W w) a b (W w).length).getD m 0)) ∨ (¬ (∃ m, m < (pjl (W w) a b (W w).length).length ∧ x4 = nI m) ∧ r = -5)) → ∀ Q : Int32 → Prop, Q r → wp_X11_projected B_v (nI w) (nI a) (nI b) x4 Q := by
            intro r hr Q hQ
            unfold wp_X11_projected
            refine s_isWord hw ?_
            (first | refine br_t (by decide) ?_ | refine br_f (by decide) ?_ | refine br_t' (by decide) ?_ | refine br_f' (by decide) ?_)
            refine s_isLetter hk0 hk6 ha ?_
            (first | refine br_t (by decide) ?_ | refine br_f (by decide) ?_ | refine br_t' (by decide) ?_ | refine br_f' (by decide) ?_)
            refine s_isLetter hk0 hk6 hb ?_
            (first | refine br_t (by decide) ?_ | refine br_f (by decide) ?_ | refine br_t' (by decide) ?_ | refine br_f' (by decide) ?_)
            by_cases hneg : x4 < 0
            · have e5 : r = -5 := by
                rcases hr with ⟨m, hm, rfl, -⟩ | ⟨-, e⟩
                · exact absurd hneg (nI_pos (by omega))
                · exact e
              rw [e5] at hQ
              refine for_X11_projected_L32 _ _ _ _ _ _ (0) (fun i x => x = x4) ?_ ?_ (0) _ _ rfl (Nat.zero_le _) (rfl)
              · intro again i x hi; exact absurd hi (Nat.not_lt_zero _)
              · rintro again x rfl
                unfold wp_X11_projected_L32
                try simp (disch := omega) only [k_0, k_1, k_2, k_3, k_4, k_6, k_7, k_10, k_11, k_12, k_13, k_14, k_16, k_32, k_36, k_40, k_41, k_42, k_43, k_49, k_64, k_80, k_96, k_97, k_100, k_109, k_110, k_127, k_128, k_146, k_147, k_160, k_2304, k_4608, k_13824, nI_add, pk_mul, pk_sub, nI_clamp, q_in, nI_ltI, nI_leI, nI_eq, forall_eq, e_shl, e_bit, e_b0, e_b1, e_bn, e_andn, fa_or, fa_and, e_m1, e_nneg]
                refine ⟨by omega, fun _ => hQ, fun _ => br_t hneg hQ⟩
            · obtain ⟨m, hm, rfl⟩ := nI_of hneg
              refine for_X11_projected_L32 _ _ _ _ _ _ ((W w).length) (fun i x => (pjl (W w) a b i).length ≤ m ∧ x = nI (m - (pjl (W w) a b i).length)) ?_ ?_ (0) _ _ rfl (Nat.zero_le _) (⟨by simp [pjl], by simp [pjl]⟩)
              · rintro again i x hi ⟨h1, rfl⟩ hag
                have ui := lk61 _ (getD_mem hi)
                unfold wp_X11_projected_L32 wp_X11_projected_J80
                try simp (disch := omega) only [k_0, k_1, k_2, k_3, k_4, k_6, k_7, k_10, k_11, k_12, k_13, k_14, k_16, k_32, k_36, k_40, k_41, k_42, k_43, k_49, k_64, k_80, k_96, k_97, k_100, k_109, k_110, k_127, k_128, k_146, k_147, k_160, k_2304, k_4608, k_13824, nI_add, pk_mul, pk_sub, nI_clamp, q_in, nI_ltI, nI_leI, nI_eq, forall_eq, e_shl, e_bit, e_b0, e_b1, e_bn, e_andn, fa_or, fa_and, e_m1, e_nneg]
                rw [wv1.1, wv1.2.2 i hi]
                try simp (disch := omega) only [k_0, k_1, k_2, k_3, k_4, k_6, k_7, k_10, k_11, k_12, k_13, k_14, k_16, k_32, k_36, k_40, k_41, k_42, k_43, k_49, k_64, k_80, k_96, k_97, k_100, k_109, k_110, k_127, k_128, k_146, k_147, k_160, k_2304, k_4608, k_13824, nI_add, pk_mul, pk_sub, nI_clamp, q_in, nI_ltI, nI_leI, nI_eq, forall_eq, e_shl, e_bit, e_b0, e_b1, e_bn, e_andn, fa_or, fa_and, e_m1, e_nneg]
                repeat (first | refine And.intro (fun hh => absurd hh (by omega)) (fun _ => ?_) | refine And.intro (fun _ => ?_) (fun hh => absurd hh (by omega)) | refine And.intro (by omega) ?_)
                rw [pjl_s hi] at hag
                have hit : (W w).getD i 0 = a ∨ (W w).getD i 0 = b → ((¬ m - (pjl (W w) a b i).length = 0 → again (nI (m - (pjl (W w) a b i).length) + (-1)) (nI (i + 1))) ∧ (m - (pjl (W w) a b i).length = 0 → Q (nI ((W w).getD i 0)))) := by
                  intro e
                  rw [if_pos e] at hag
                  refine ⟨fun q => ?_, fun q => ?_⟩
                  · have := hag _ ⟨by simp; omega, rfl⟩
                    have e2 : nI (m - (pjl (W w) a b i).length) + (-1) = nI (m - (pjl (W w) a b i ++ [(W w).getD i 0]).length) := by
                      rw [show m - (pjl (W w) a b i).length = (m - (pjl (W w) a b i).length - 1) + 1 by omega, pk_m1]
                      congr 1
                      simp
                      omega
                    rw [e2]
                    exact this
                  · have e3 : pjl (W w) a b (i + 1) = pjl (W w) a b i ++ [(W w).getD i 0] := by rw [pjl_s hi, if_pos e]
                    have h4 := pjl_mono (u := W w) (a := a) (b := b) (j := i + 1) (i := (W w).length) (Nat.le_refl _) hi m (by rw [e3]; simp; omega)
                    have h5 : (pjl (W w) a b (i + 1)).getD m 0 = (W w).getD i 0 := by
                      rw [e3, show m = (pjl (W w) a b i).length by omega, getD_last]
                    rw [h5] at h4
                    rcases hr with ⟨m2, g1, g2, g3⟩ | ⟨g1, -⟩
                    · have e6 : m = m2 := (nI_eq hm (by omega)).mp g2
                      rw [← e6, h4.2] at g3
                      rw [← g3]
                      exact hQ
                    · exact absurd ⟨m, h4.1, rfl⟩ g1
                refine ⟨fun e => hit (Or.inl e), fun e => ⟨fun e2 => ?_, fun e2 => hit (Or.inr e2)⟩⟩
                rw [if_neg (by rintro (q | q); exact e q; exact e2 q)] at hag
                exact hag _ ⟨h1, rfl⟩
              · rintro again x ⟨h1, rfl⟩
                unfold wp_X11_projected_L32
                try simp (disch := omega) only [k_0, k_1, k_2, k_3, k_4, k_6, k_7, k_10, k_11, k_12, k_13, k_14, k_16, k_32, k_36, k_40, k_41, k_42, k_43, k_49, k_64, k_80, k_96, k_97, k_100, k_109, k_110, k_127, k_128, k_146, k_147, k_160, k_2304, k_4608, k_13824, nI_add, pk_mul, pk_sub, nI_clamp, q_in, nI_ltI, nI_leI, nI_eq, forall_eq, e_shl, e_bit, e_b0, e_b1, e_bn, e_andn, fa_or, fa_and, e_m1, e_nneg]
                rw [wv1.1]
                try simp (disch := omega) only [k_0, k_1, k_2, k_3, k_4, k_6, k_7, k_10, k_11, k_12, k_13, k_14, k_16, k_32, k_36, k_40, k_41, k_42, k_43, k_49, k_64, k_80, k_96, k_97, k_100, k_109, k_110, k_127, k_128, k_146, k_147, k_160, k_2304, k_4608, k_13824, nI_add, pk_mul, pk_sub, nI_clamp, q_in, nI_ltI, nI_leI, nI_eq, forall_eq, e_shl, e_bit, e_b0, e_b1, e_bn, e_andn, fa_or, fa_and, e_m1, e_nneg]
                repeat (first | refine And.intro (fun hh => absurd hh (by omega)) (fun _ => ?_) | refine And.intro (fun _ => ?_) (fun hh => absurd hh (by omega)) | refine And.intro (by omega) ?_)
                rcases hr with ⟨m2, g1, g2, -⟩ | ⟨-, g⟩
                · have e6 : m = m2 := (nI_eq hm (by omega)).mp g2
                  omega
                · rw [g] at hQ; exact hQ
          rcases in_cases x4 (n := (pjl (W w) a b (W w).length).length) (by omega) with ⟨m, hm, rfl⟩ | hx
          · refine s_lon hl pk hm ?_
            apply hK
            intro Q hQ
            exact ref _ (Or.inl ⟨m, hm, rfl, rfl⟩) Q hQ
          · refine s_lonN (by omega) hx ?_
            apply hK
            intro Q hQ
            exact ref _ (Or.inr ⟨hx, rfl⟩) Q hQ
      · refine s_word hw ?_
        (first | refine br_t (by decide) ?_ | refine br_f (by decide) ?_ | refine br_t' (by decide) ?_ | refine br_f' (by decide) ?_)
        refine s_has hk6 ha ?_
        (first | refine br_t (by decide) ?_ | refine br_f (by decide) ?_ | refine br_t' (by decide) ?_ | refine br_f' (by decide) ?_)
        refine s_hasN hk6 hx ?_
        (first | refine br_t (by decide) ?_ | refine br_f (by decide) ?_ | refine br_t' (by decide) ?_ | refine br_f' (by decide) ?_)
        apply hK
        intro Q hQ
        unfold wp_X11_projected
        refine s_isWord hw ?_
        (first | refine br_t (by decide) ?_ | refine br_f (by decide) ?_ | refine br_t' (by decide) ?_ | refine br_f' (by decide) ?_)
        refine s_isLetter hk0 hk6 ha ?_
        (first | refine br_t (by decide) ?_ | refine br_f (by decide) ?_ | refine br_t' (by decide) ?_ | refine br_f' (by decide) ?_)
        refine s_isLetterN hk0 (by omega) hk6 hx ?_
        (first | refine br_t (by decide) ?_ | refine br_f (by decide) ?_ | refine br_t' (by decide) ?_ | refine br_f' (by decide) ?_)
        first | (apply hQ; done) | (apply hQ; exact hR0)
    · refine s_word hw ?_
      (first | refine br_t (by decide) ?_ | refine br_f (by decide) ?_ | refine br_t' (by decide) ?_ | refine br_f' (by decide) ?_)
      refine s_hasN hk6 hx ?_
      (first | refine br_t (by decide) ?_ | refine br_f (by decide) ?_ | refine br_t' (by decide) ?_ | refine br_f' (by decide) ?_)
      apply hK
      intro Q hQ
      unfold wp_X11_projected
      refine s_isWord hw ?_
      (first | refine br_t (by decide) ?_ | refine br_f (by decide) ?_ | refine br_t' (by decide) ?_ | refine br_f' (by decide) ?_)
      refine s_isLetterN hk0 (by omega) hk6 hx ?_
      (first | refine br_t (by decide) ?_ | refine br_f (by decide) ?_ | refine br_t' (by decide) ?_ | refine br_f' (by decide) ?_)
      first | (apply hQ; done) | (apply hQ; exact hR0)
  · refine s_wordN hx ?_
    (first | refine br_t (by decide) ?_ | refine br_f (by decide) ?_ | refine br_t' (by decide) ?_ | refine br_f' (by decide) ?_)
    apply hK
    intro Q hQ
    unfold wp_X11_projected
    refine s_isWordN hx ?_
    (first | refine br_t (by decide) ?_ | refine br_f (by decide) ?_ | refine br_t' (by decide) ?_ | refine br_f' (by decide) ?_)
    first | (apply hQ; done) | (apply hQ; exact hR0)
