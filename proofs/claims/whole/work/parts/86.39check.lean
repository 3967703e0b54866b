/-! the checksum -/
def mx (h z : Int64) : Int64 := 31 * h + z
noncomputable def mixW (fr : Nat → Nat) (k n : Nat) (ar : Nat → Nat → Nat) (ac : Nat) (u : List Nat) (h0 : Int64) : Int64 :=
  mx (mx (mx (fld (fun i h => mx h (nI (laySet (hN fr u u.length) u i u.length)).toInt64) (fld (fun i h => mx h (nI ((nf fr k u).getD i 0)).toInt64) (mx h0 (nI u.length).toInt64) (nf fr k u).length) (layN (hN fr u u.length) u.length)) (cA fr k u n ar 63)) (bI (con fr (lset u u.length))).toInt64) (cA fr k u n ar ac)
theorem s_mixWord {q1 q2 q3 q4 q5 : Int32} {ds last : Int32} {pl ps pt : Int32} {ways : Nat → Int64} {free arr dl lA yA bA pA lB yB bB pB tA wA lt : Nat → Int32} {fr : Nat → Nat} {k n ac : Nat} {ar : Nat → Nat → Nat} (irr : ∀ a, ind fr a a = false) (sym : ∀ a b, ind fr a b = ind fr b a) (hf : FA free fr) (hk : k ≤ 6) {u : List Nat} (hW : WR (nI u.length) lt u) (hu : ∀ x ∈ u, x < k) (h16 : u.length ≤ 16) (hn1 : 1 ≤ n) (hn : n ≤ 6) (hA : ∀ q x, q < n → x < 6 → arr (q * 6 + x) = nI (ar q x)) (har : ∀ q x, q < n → x < 6 → ar q x < n) {h0 : Int64} {K : Int64 → Int32 → (Nat → Int32) → Int32 → Int32 → Int32 → (Nat → Int32) → (Nat → Int32) → (Nat → Int32) → (Nat → Int32) → Int32 → Int32 → Int32 → Int32 → Int32 → (Nat → Int32) → (Nat → Int32) → (Nat → Int32) → (Nat → Int32) → (Nat → Int32) → (Nat → Int32) → Int32 → (Nat → Int64) → Prop} (hK : ∀ o1 o2 o3 o4 o5 o6 o7 o8 o9 o10 o11 o12 o13 o14 o15 o16 o17 o18 o19 o20 o21 o22, K (mixW fr k n ar ac u h0) o1 o2 o3 o4 o5 o6 o7 o8 o9 o10 o11 o12 o13 o14 o15 o16 o17 o18 o19 o20 o21 o22) : wp_X10_mixWord (nI k) free (nI n) (nI ac) arr ds dl pl ps pt lA yA bA pA q1 q2 q3 q4 q5 lB yB bB pB tA wA last ways (nI u.length) lt h0 K := by
  have hu6 : ∀ x ∈ u, x < 6 := fun x hx => Nat.lt_of_lt_of_le (hu x hx) hk
  have hWt := wt_le hu6 h16
  have nl := nf_len (fr := fr) hu
  have ll := layN_le _ (hN_le fr u u.length) u.length
  have hl := lset_lt hu u.length (Nat.le_refl _)
  unfold wp_X10_mixWord wp_X10_mix
  refine s_lay hf hk hW hu (fun a b c d hP => s_writeRest (TK.start _) h16 irr sym hk hu hP (fun T dl' hdl => ?_))
  refine for_X10_mixWord_L40 _ _ _ ((nf fr k u).length) (fun i h => h = fld (fun i h => mx h (nI ((nf fr k u).getD i 0)).toInt64) (mx h0 (nI u.length).toInt64) i) ?_ ?_ (0) _ _ rfl (Nat.zero_le _) (rfl)
  · rintro again i h hi rfl hag
    unfold wp_X10_mixWord_L40 wp_X10_mix
    try simp (disch := omega) only [k_0, k_1, k_2, k_3, k_4, k_6, k_7, k_10, k_11, k_12, k_13, k_14, k_16, k_32, k_36, k_40, k_41, k_42, k_43, k_49, k_64, k_80, k_96, k_97, k_100, k_109, k_110, k_127, k_128, k_146, k_147, k_160, k_2304, k_4608, k_13824, nI_add, pk_mul, pk_sub, nI_clamp, q_in, nI_ltI, nI_leI, nI_eq, forall_eq, e_shl, e_bit, e_b0, e_b1, e_bn, e_andn, fa_or, fa_and, e_m1, e_nneg]
    repeat (first | refine And.intro (fun hh => absurd hh (by omega)) (fun _ => ?_) | refine And.intro (fun _ => ?_) (fun hh => absurd hh (by omega)) | refine And.intro (by omega) ?_)
    refine s_at hdl hi ?_
    exact hag _ rfl
  rintro again h rfl
  unfold wp_X10_mixWord_L40
  try simp (disch := omega) only [k_0, k_1, k_2, k_3, k_4, k_6, k_7, k_10, k_11, k_12, k_13, k_14, k_16, k_32, k_36, k_40, k_41, k_42, k_43, k_49, k_64, k_80, k_96, k_97, k_100, k_109, k_110, k_127, k_128, k_146, k_147, k_160, k_2304, k_4608, k_13824, nI_add, pk_mul, pk_sub, nI_clamp, q_in, nI_ltI, nI_leI, nI_eq, forall_eq, e_shl, e_bit, e_b0, e_b1, e_bn, e_andn, fa_or, fa_and, e_m1, e_nneg]
  repeat (first | refine And.intro (fun hh => absurd hh (by omega)) (fun _ => ?_) | refine And.intro (fun _ => ?_) (fun hh => absurd hh (by omega)) | refine And.intro (by omega) ?_)
  refine s_countLayers (by omega) hP ?_
  refine for_X10_mixWord_L87 _ _ _ _ _ (layN (hN fr u u.length) u.length) (fun i h => h = fld (fun i h => mx h (nI (laySet (hN fr u u.length) u i u.length)).toInt64) (fld (fun i h => mx h (nI ((nf fr k u).getD i 0)).toInt64) (mx h0 (nI u.length).toInt64) (nf fr k u).length) i) ?_ ?_ (0) _ _ rfl (Nat.zero_le _) (rfl)
  · rintro again2 i h hi rfl hag
    unfold wp_X10_mixWord_L87 wp_X10_mix
    try simp (disch := omega) only [k_0, k_1, k_2, k_3, k_4, k_6, k_7, k_10, k_11, k_12, k_13, k_14, k_16, k_32, k_36, k_40, k_41, k_42, k_43, k_49, k_64, k_80, k_96, k_97, k_100, k_109, k_110, k_127, k_128, k_146, k_147, k_160, k_2304, k_4608, k_13824, nI_add, pk_mul, pk_sub, nI_clamp, q_in, nI_ltI, nI_leI, nI_eq, forall_eq, e_shl, e_bit, e_b0, e_b1, e_bn, e_andn, fa_or, fa_and, e_m1, e_nneg]
    repeat (first | refine And.intro (fun hh => absurd hh (by omega)) (fun _ => ?_) | refine And.intro (fun _ => ?_) (fun hh => absurd hh (by omega)) | refine And.intro (by omega) ?_)
    refine s_lettersOfLayer (by omega) hu6 hP (by omega) ?_
    exact hag _ rfl
  rintro again2 h rfl
  unfold wp_X10_mixWord_L87
  try simp (disch := omega) only [k_0, k_1, k_2, k_3, k_4, k_6, k_7, k_10, k_11, k_12, k_13, k_14, k_16, k_32, k_36, k_40, k_41, k_42, k_43, k_49, k_64, k_80, k_96, k_97, k_100, k_109, k_110, k_127, k_128, k_146, k_147, k_160, k_2304, k_4608, k_13824, nI_add, pk_mul, pk_sub, nI_clamp, q_in, nI_ltI, nI_leI, nI_eq, forall_eq, e_shl, e_bit, e_b0, e_b1, e_bn, e_andn, fa_or, fa_and, e_m1, e_nneg]
  repeat (first | refine And.intro (fun hh => absurd hh (by omega)) (fun _ => ?_) | refine And.intro (fun _ => ?_) (fun hh => absurd hh (by omega)) | refine And.intro (by omega) ?_)
  refine s_countAlike irr sym hf hk hW hu h16 hn hA har (fun s1 s2 s3 s4 s5 a b c d t w wy hAG => ?_)
  refine s_countAll hWt hn1 hn hk har hAG ?_
  refine s_letterSet hW hu6 (s_conn irr hf hk hl (s_num _ (s_countAccepted hWt hn hAG ?_)))
  exact hK _ _ _ _ _ _ _ _ _ _ _ _ _ _ _ _ _ _ _ _ _ _
theorem s_moreOfWord {q1 q2 q3 : Int32} {v one md gone ht cn st bf : Nat → Int32} {wd : Nat → Int64} {fr : Nat → Nat} {k n ac w : Nat} {ar : Nat → Nat → Nat} (irr : ∀ a, ind fr a a = false) (sym : ∀ a b, ind fr a b = ind fr b a) (hv0 : v 0 = nI k) (hf : FV v fr) (hk : k ≤ 6) (hw : w < 6) {u : List Nat} (hW : WV v w u) (hu : ∀ x ∈ u, x < k) (hn0 : v 109 = nI n) (hac0 : v 146 = nI ac) (hn : n ≤ 6) (hA : ∀ q x, q < n → x < 6 → v (110 + 6 * q + x) = nI (ar q x)) (har : ∀ q x, q < n → x < 6 → ar q x < n) {h0 : Int64} {K : Int64 → Int32 → Int32 → Int32 → (Nat → Int32) → (Nat → Int32) → (Nat → Int32) → (Nat → Int32) → (Nat → Int32) → (Nat → Int32) → (Nat → Int32) → (Nat → Int64) → Prop} (hK : ∀ o1 o2 o3 o4 o5 o6 o7 o8 o9 o10 o11, K (mixW fr k n ar ac u h0) o1 o2 o3 o4 o5 o6 o7 o8 o9 o10 o11) : wp_X11_moreOfWord q1 q2 q3 v one md gone ht cn st bf wd h0 (nI w) K := by
  have hu6 : ∀ x ∈ u, x < 6 := fun x hx => Nat.lt_of_lt_of_le (hu x hx) hk
  have h16 := hW.2.1
  have hWt := wt_le hu6 h16
  have nl := nf_len (fr := fr) hu
  have ll := layN_le _ (hN_le fr u u.length) u.length
  have hl := lset_lt hu u.length (Nat.le_refl _)
  unfold wp_X11_moreOfWord wp_X11_more
  refine s_takesOne hw hW (fun one ho => s_normalizes irr hf hk hu ho (by omega) (by omega) (by decide) (fun md g hm => ?_))
  refine for_X11_moreOfWord_L31 _ _ _ ((nf fr k u).length) (fun i h => h = fld (fun i h => mx h (nI ((nf fr k u).getD i 0)).toInt64) (mx h0 (nI u.length).toInt64) i) ?_ ?_ (0) _ _ rfl (Nat.zero_le _) (rfl)
  · rintro again i h hi rfl hag
    unfold wp_X11_moreOfWord_L31 wp_X11_more
    try simp (disch := omega) only [k_0, k_1, k_2, k_3, k_4, k_6, k_7, k_10, k_11, k_12, k_13, k_14, k_16, k_32, k_36, k_40, k_41, k_42, k_43, k_49, k_64, k_80, k_96, k_97, k_100, k_109, k_110, k_127, k_128, k_146, k_147, k_160, k_2304, k_4608, k_13824, nI_add, pk_mul, pk_sub, nI_clamp, q_in, nI_ltI, nI_leI, nI_eq, forall_eq, e_shl, e_bit, e_b0, e_b1, e_bn, e_andn, fa_or, fa_and, e_m1, e_nneg]
    repeat (first | refine And.intro (fun hh => absurd hh (by omega)) (fun _ => ?_) | refine And.intro (fun _ => ?_) (fun hh => absurd hh (by omega)) | refine And.intro (by omega) ?_)
    rw [hm i hi]
    exact hag _ rfl
  rintro again h rfl
  unfold wp_X11_moreOfWord_L31
  try simp (disch := omega) only [k_0, k_1, k_2, k_3, k_4, k_6, k_7, k_10, k_11, k_12, k_13, k_14, k_16, k_32, k_36, k_40, k_41, k_42, k_43, k_49, k_64, k_80, k_96, k_97, k_100, k_109, k_110, k_127, k_128, k_146, k_147, k_160, k_2304, k_4608, k_13824, nI_add, pk_mul, pk_sub, nI_clamp, q_in, nI_ltI, nI_leI, nI_eq, forall_eq, e_shl, e_bit, e_b0, e_b1, e_bn, e_andn, fa_or, fa_and, e_m1, e_nneg]
  repeat (first | refine And.intro (fun hh => absurd hh (by omega)) (fun _ => ?_) | refine And.intro (fun _ => ?_) (fun hh => absurd hh (by omega)) | refine And.intro (by omega) ?_)
  refine s_findLayers sym hf hu6 ho h16 (fun ht' hh => ?_)
  refine for_X11_moreOfWord_L70 _ _ _ _ _ (layN (hN fr u u.length) u.length) (fun i h => h = fld (fun i h => mx h (nI (laySet (hN fr u u.length) u i u.length)).toInt64) (fld (fun i h => mx h (nI ((nf fr k u).getD i 0)).toInt64) (mx h0 (nI u.length).toInt64) (nf fr k u).length) i) ?_ ?_ (0) _ _ rfl (Nat.zero_le _) (rfl)
  · rintro again2 i h hi rfl hag
    unfold wp_X11_moreOfWord_L70 wp_X11_more
    try simp (disch := omega) only [k_0, k_1, k_2, k_3, k_4, k_6, k_7, k_10, k_11, k_12, k_13, k_14, k_16, k_32, k_36, k_40, k_41, k_42, k_43, k_49, k_64, k_80, k_96, k_97, k_100, k_109, k_110, k_127, k_128, k_146, k_147, k_160, k_2304, k_4608, k_13824, nI_add, pk_mul, pk_sub, nI_clamp, q_in, nI_ltI, nI_leI, nI_eq, forall_eq, e_shl, e_bit, e_b0, e_b1, e_bn, e_andn, fa_or, fa_and, e_m1, e_nneg]
    repeat (first | refine And.intro (fun hh => absurd hh (by omega)) (fun _ => ?_) | refine And.intro (fun _ => ?_) (fun hh => absurd hh (by omega)) | refine And.intro (by omega) ?_)
    refine s_layerNow hu6 ho h16 hh (by omega) ?_
    exact hag _ rfl
  rintro again2 h rfl
  unfold wp_X11_moreOfWord_L70
  try simp (disch := omega) only [k_0, k_1, k_2, k_3, k_4, k_6, k_7, k_10, k_11, k_12, k_13, k_14, k_16, k_32, k_36, k_40, k_41, k_42, k_43, k_49, k_64, k_80, k_96, k_97, k_100, k_109, k_110, k_127, k_128, k_146, k_147, k_160, k_2304, k_4608, k_13824, nI_add, pk_mul, pk_sub, nI_clamp, q_in, nI_ltI, nI_leI, nI_eq, forall_eq, e_shl, e_bit, e_b0, e_b1, e_bn, e_andn, fa_or, fa_and, e_m1, e_nneg]
  repeat (first | refine And.intro (fun hh => absurd hh (by omega)) (fun _ => ?_) | refine And.intro (fun _ => ?_) (fun hh => absurd hh (by omega)) | refine And.intro (by omega) ?_)
  refine s_findWords irr sym hv0 hf hk hu ho h16 hn0 hn hA har (fun cn st bf wd hAG => ?_)
  refine s_wordsTo (m := 63) hWt hn0 hn hAG ?_
  refine s_lettersR hw hW hu6 (s_connR irr sym hv0 hf hk hl ?_)
  have fin : ∀ s1, s1 = (bI (con fr (lset u u.length))).toInt64 → wp_X11_moreOfWord_J133 K (nI u.length) (nI (nf fr k u).length) (nI (wt u 6)) v one md g ht' cn st bf wd (31 * (fld (fun i h => mx h (nI (laySet (hN fr u u.length) u i u.length)).toInt64) (fld (fun i h => mx h (nI ((nf fr k u).getD i 0)).toInt64) (mx h0 (nI u.length).toInt64) (nf fr k u).length) (layN (hN fr u u.length) u.length)) + cA fr k u n ar 63) s1 := by
    intro s1 hs1
    unfold wp_X11_moreOfWord_J133 wp_X11_more
    try simp (disch := omega) only [k_0, k_1, k_2, k_3, k_4, k_6, k_7, k_10, k_11, k_12, k_13, k_14, k_16, k_32, k_36, k_40, k_41, k_42, k_43, k_49, k_64, k_80, k_96, k_97, k_100, k_109, k_110, k_127, k_128, k_146, k_147, k_160, k_2304, k_4608, k_13824, nI_add, pk_mul, pk_sub, nI_clamp, q_in, nI_ltI, nI_leI, nI_eq, forall_eq, e_shl, e_bit, e_b0, e_b1, e_bn, e_andn, fa_or, fa_and, e_m1, e_nneg]
    rw [hac0, hs1]
    refine ⟨by decide, s_wordsTo hWt hn0 hn hAG ?_⟩
    exact hK _ _ _ _ _ _ _ _ _ _ _
  cases hc : con fr (lset u u.length) with
  | false => rw [hc] at fin; exact br_t (by decide) (fin 0 (by decide))
  | true => rw [hc] at fin; exact br_f (by decide) (fin 1 (by decide))
noncomputable def csum (fr : Nat → Nat) (k n : Nat) (ar : Nat → Nat → Nat) (ac : Nat) (W : Nat → List Nat) : Int64 :=
  fld (fun w h => mixW fr k n ar ac (W w) h) (fld (fun x h => mx h (nI (fr x)).toInt64) (mx 67 (nI k).toInt64) k) 6
theorem M_checksum {A_now_alphabet_count : Int32} {A_now_alphabet_free : Nat → Int32} {A_now_words_size : Nat → Int32} {A_now_words_letters : Nat → Nat → Int32} {A_now_recogniser_states : Int32} {A_now_recogniser_accepting : Int32} {A_now_recogniser_arrows : Nat → Int32} {A_now_recogniser_apart : Nat → Int32} {A_draft_size : Int32} {A_draft_letters : Nat → Int32} {A_places_letters : Int32} {A_places_size : Int32} {A_places_taken : Int32} {A_places_letterAt : Nat → Int32} {A_places_layerAt : Nat → Int32} {A_places_before : Nat → Int32} {A_places_placesOf : Nat → Int32} {A_prefixes_letters : Int32} {A_prefixes_size : Int32} {A_prefixes_places_letters : Int32} {A_prefixes_places_size : Int32} {A_prefixes_places_taken : Int32} {A_prefixes_places_letterAt : Nat → Int32} {A_prefixes_places_layerAt : Nat → Int32} {A_prefixes_places_before : Nat → Int32} {A_prefixes_places_placesOf : Nat → Int32} {A_prefixes_takenAt : Nat → Int32} {A_prefixes_weight : Nat → Int32} {A_counter_last : Int32} {A_counter_ways : Nat → Int64} {B_v : Nat → Int32} {B_oneLength : Int32} {B_madeLength : Int32} {B_beginnings : Int32} {B_one : Nat → Int32} {B_made : Nat → Int32} {B_isGone : Nat → Int32} {B_heights : Nat → Int32} {B_count : Nat → Int32} {B_step : Nat → Int32} {B_before : Nat → Int32} {B_words : Nat → Int64} {B_isApart : Nat → Int32} (hR : REL A_now_alphabet_count A_now_alphabet_free A_now_words_size A_now_words_letters A_now_recogniser_states A_now_recogniser_accepting A_now_recogniser_arrows B_v) {K : Int64 → (Nat → Int32) → Int32 → (Nat → Int32) → Int32 → Int32 → Int32 → (Nat → Int32) → (Nat → Int32) → (Nat → Int32) → (Nat → Int32) → Int32 → Int32 → Int32 → Int32 → Int32 → (Nat → Int32) → (Nat → Int32) → (Nat → Int32) → (Nat → Int32) → (Nat → Int32) → (Nat → Int32) → Int32 → (Nat → Int64) → Prop} (hK : ∀ (r : Int64) A_now_recogniser_apart' A_draft_size' A_draft_letters' A_places_letters' A_places_size' A_places_taken' A_places_letterAt' A_places_layerAt' A_places_before' A_places_placesOf' A_prefixes_letters' A_prefixes_size' A_prefixes_places_letters' A_prefixes_places_size' A_prefixes_places_taken' A_prefixes_places_letterAt' A_prefixes_places_layerAt' A_prefixes_places_before' A_prefixes_places_placesOf' A_prefixes_takenAt' A_prefixes_weight' A_counter_last' A_counter_ways', (∀ Q : Int64 → Int32 → Int32 → Int32 → (Nat → Int32) → (Nat → Int32) → (Nat → Int32) → (Nat → Int32) → (Nat → Int32) → (Nat → Int32) → (Nat → Int32) → (Nat → Int64) → (Nat → Int32) → Prop, (∀ B_oneLength' B_madeLength' B_beginnings' B_one' B_made' B_isGone' B_heights' B_count' B_step' B_before' B_words' B_isApart', Q r B_oneLength' B_madeLength' B_beginnings' B_one' B_made' B_isGone' B_heights' B_count' B_step' B_before' B_words' B_isApart') → wp_X11_checksum B_oneLength B_madeLength B_beginnings B_v B_one B_made B_isGone B_heights B_count B_step B_before B_words B_isApart  Q) → K r A_now_recogniser_apart' A_draft_size' A_draft_letters' A_places_letters' A_places_size' A_places_taken' A_places_letterAt' A_places_layerAt' A_places_before' A_places_placesOf' A_prefixes_letters' A_prefixes_size' A_prefixes_places_letters' A_prefixes_places_size' A_prefixes_places_taken' A_prefixes_places_letterAt' A_prefixes_places_layerAt' A_prefixes_places_before' A_prefixes_places_placesOf' A_prefixes_takenAt' A_prefixes_weight' A_counter_last' A_counter_ways') : wp_X10_checksum A_now_alphabet_count A_now_alphabet_free A_now_words_size A_now_words_letters A_now_recogniser_states A_now_recogniser_accepting A_now_recogniser_arrows A_now_recogniser_apart A_draft_size A_draft_letters A_places_letters A_places_size A_places_taken A_places_letterAt A_places_layerAt A_places_before A_places_placesOf A_prefixes_letters A_prefixes_size A_prefixes_places_letters A_prefixes_places_size A_prefixes_places_taken A_prefixes_places_letterAt A_prefixes_places_layerAt A_prefixes_places_before A_prefixes_places_placesOf A_prefixes_takenAt A_prefixes_weight A_counter_last A_counter_ways  K := by
  have hR0 := hR
  obtain ⟨k, fr, W, n, ar, ac, hS, hA, hB⟩ := hR
  have hS0 := hS
  have hA0 := hA
  have hB0 := hB
  obtain ⟨hFR, hWS, hn1, hn6, har, hacl⟩ := hS
  obtain ⟨rfl, hF, hW, rfl, rfl, hAr⟩ := hA
  obtain ⟨hk0, hV, hWV, hn0, hac0, hArV, hAr6⟩ := hB
  have hk6 := hFR.2.1
  have hk2 := hFR.1
  have irr := hFR.irr
  have sym := hFR.sym
  unfold wp_X10_checksum
  unfold wp_X10_mix
  refine for_X10_checksum_L23 _ _ _ (k) (fun i h => h = fld (fun x h => mx h (nI (fr x)).toInt64) (mx 67 (nI k).toInt64) i) ?_ ?_ (0) _ _ rfl (Nat.zero_le _) (rfl)
  · rintro again i h hi rfl hag
    unfold wp_X10_checksum_L23 wp_X10_mix
    try simp (disch := omega) only [k_0, k_1, k_2, k_3, k_4, k_6, k_7, k_10, k_11, k_12, k_13, k_14, k_16, k_32, k_36, k_40, k_41, k_42, k_43, k_49, k_64, k_80, k_96, k_97, k_100, k_109, k_110, k_127, k_128, k_146, k_147, k_160, k_2304, k_4608, k_13824, nI_add, pk_mul, pk_sub, nI_clamp, q_in, nI_ltI, nI_leI, nI_eq, forall_eq, e_shl, e_bit, e_b0, e_b1, e_bn, e_andn, fa_or, fa_and, e_m1, e_nneg]
    repeat (first | refine And.intro (fun hh => absurd hh (by omega)) (fun _ => ?_) | refine And.intro (fun _ => ?_) (fun hh => absurd hh (by omega)) | refine And.intro (by omega) ?_)
    refine s_freeOf hF (by omega) ?_
    exact hag _ rfl
  rintro again h rfl
  unfold wp_X10_checksum_L23
  try simp (disch := omega) only [k_0, k_1, k_2, k_3, k_4, k_6, k_7, k_10, k_11, k_12, k_13, k_14, k_16, k_32, k_36, k_40, k_41, k_42, k_43, k_49, k_64, k_80, k_96, k_97, k_100, k_109, k_110, k_127, k_128, k_146, k_147, k_160, k_2304, k_4608, k_13824, nI_add, pk_mul, pk_sub, nI_clamp, q_in, nI_ltI, nI_leI, nI_eq, forall_eq, e_shl, e_bit, e_b0, e_b1, e_bn, e_andn, fa_or, fa_and, e_m1, e_nneg]
  repeat (first | refine And.intro (fun hh => absurd hh (by omega)) (fun _ => ?_) | refine And.intro (fun _ => ?_) (fun hh => absurd hh (by omega)) | refine And.intro (by omega) ?_)
  refine for_X10_checksum_L53 _ _ _ _ _ _ _ _ (6) (fun w h _ _ _ _ _ _ _ _ _ _ _ _ _ _ _ _ _ _ _ _ _ _ => h = fld (fun w h => mixW fr k n ar ac (W w) h) (fld (fun x h => mx h (nI (fr x)).toInt64) (mx 67 (nI k).toInt64) k) w) ?_ ?_ (0) _ _ _ _ _ _ _ _ _ _ _ _ _ _ _ _ _ _ _ _ _ _ _ _ rfl (Nat.zero_le _) (rfl)
  · rintro again2 w h s1 s2 s3 s4 s5 s6 s7 s8 s9 s10 s11 s12 s13 s14 s15 s16 s17 s18 s19 s20 s21 s22 hw rfl hag
    have ws1 := (hW w hw).1
    have wr1 := hW w hw
    rw [ws1] at wr1
    have wv1 := hWV w hw
    obtain ⟨l161, lk1⟩ := hWS w hw
    have lk61 : ∀ x ∈ W w, x < 6 := fun x h => Nat.lt_of_lt_of_le (lk1 x h) hk6
    unfold wp_X10_checksum_L53
    try simp (disch := omega) only [k_0, k_1, k_2, k_3, k_4, k_6, k_7, k_10, k_11, k_12, k_13, k_14, k_16, k_32, k_36, k_40, k_41, k_42, k_43, k_49, k_64, k_80, k_96, k_97, k_100, k_109, k_110, k_127, k_128, k_146, k_147, k_160, k_2304, k_4608, k_13824, nI_add, pk_mul, pk_sub, nI_clamp, q_in, nI_ltI, nI_leI, nI_eq, forall_eq, e_shl, e_bit, e_b0, e_b1, e_bn, e_andn, fa_or, fa_and, e_m1, e_nneg]
    repeat (first | refine And.intro (fun hh => absurd hh (by omega)) (fun _ => ?_) | refine And.intro (fun _ => ?_) (fun hh => absurd hh (by omega)) | refine And.intro (by omega) ?_)
    rw [ws1]
    refine s_mixWord irr sym hF hk6 wr1 lk1 l161 hn1 hn6 hAr har (fun o1 o2 o3 o4 o5 o6 o7 o8 o9 o10 o11 o12 o13 o14 o15 o16 o17 o18 o19 o20 o21 o22 => ?_)
    exact hag _ _ _ _ _ _ _ _ _ _ _ _ _ _ _ _ _ _ _ _ _ _ _ rfl
  rintro again2 h s1 s2 s3 s4 s5 s6 s7 s8 s9 s10 s11 s12 s13 s14 s15 s16 s17 s18 s19 s20 s21 s22 rfl
  unfold wp_X10_checksum_L53
  try simp (disch := omega) only [k_0, k_1, k_2, k_3, k_4, k_6, k_7, k_10, k_11, k_12, k_13, k_14, k_16, k_32, k_36, k_40, k_41, k_42, k_43, k_49, k_64, k_80, k_96, k_97, k_100, k_109, k_110, k_127, k_128, k_146, k_147, k_160, k_2304, k_4608, k_13824, nI_add, pk_mul, pk_sub, nI_clamp, q_in, nI_ltI, nI_leI, nI_eq, forall_eq, e_shl, e_bit, e_b0, e_b1, e_bn, e_andn, fa_or, fa_and, e_m1, e_nneg]
  repeat (first | refine And.intro (fun hh => absurd hh (by omega)) (fun _ => ?_) | refine And.intro (fun _ => ?_) (fun hh => absurd hh (by omega)) | refine And.intro (by omega) ?_)
  have fin : ∀ r, bdv fr k n ar r → wp_X5_isClosed (nI n) (nI ac) A_now_recogniser_arrows A_now_recogniser_apart (nI k) A_now_alphabet_free (fun r_56 t_now_recogniser_apart_57 => wp_X10_toNumber r_56 (fun r_58 => K (31 * (31 * csum fr k n ar ac W + r.toInt64) + r_58.toInt64) t_now_recogniser_apart_57 s1 s2 s3 s4 s5 s6 s7 s8 s9 s10 s11 s12 s13 s14 s15 s16 s17 s18 s19 s20 s21 s22)) := by
    intro r hr
    refine s_isClosed hF hk6 hn1 hn6 hAr har (fun ap => s_num _ ?_)
    apply hK
    intro Q hQ
    unfold wp_X11_checksum wp_X11_more
    try simp (disch := omega) only [k_0, k_1, k_2, k_3, k_4, k_6, k_7, k_10, k_11, k_12, k_13, k_14, k_16, k_32, k_36, k_40, k_41, k_42, k_43, k_49, k_64, k_80, k_96, k_97, k_100, k_109, k_110, k_127, k_128, k_146, k_147, k_160, k_2304, k_4608, k_13824, nI_add, pk_mul, pk_sub, nI_clamp, q_in, nI_ltI, nI_leI, nI_eq, forall_eq, e_shl, e_bit, e_b0, e_b1, e_bn, e_andn, fa_or, fa_and, e_m1, e_nneg]
    rw [hk0]
    refine ⟨by decide, ?_⟩
    refine for_X11_checksum_L16 _ _ (k) (fun i h => h = fld (fun x h => mx h (nI (fr x)).toInt64) (mx 67 (nI k).toInt64) i) ?_ ?_ (0) _ _ rfl (Nat.zero_le _) (rfl)
    · rintro again i h hi rfl hag
      unfold wp_X11_checksum_L16 wp_X11_more
      try simp (disch := omega) only [k_0, k_1, k_2, k_3, k_4, k_6, k_7, k_10, k_11, k_12, k_13, k_14, k_16, k_32, k_36, k_40, k_41, k_42, k_43, k_49, k_64, k_80, k_96, k_97, k_100, k_109, k_110, k_127, k_128, k_146, k_147, k_160, k_2304, k_4608, k_13824, nI_add, pk_mul, pk_sub, nI_clamp, q_in, nI_ltI, nI_leI, nI_eq, forall_eq, e_shl, e_bit, e_b0, e_b1, e_bn, e_andn, fa_or, fa_and, e_m1, e_nneg]
      rw [hk0, hV i (by omega)]
      try simp (disch := omega) only [k_0, k_1, k_2, k_3, k_4, k_6, k_7, k_10, k_11, k_12, k_13, k_14, k_16, k_32, k_36, k_40, k_41, k_42, k_43, k_49, k_64, k_80, k_96, k_97, k_100, k_109, k_110, k_127, k_128, k_146, k_147, k_160, k_2304, k_4608, k_13824, nI_add, pk_mul, pk_sub, nI_clamp, q_in, nI_ltI, nI_leI, nI_eq, forall_eq, e_shl, e_bit, e_b0, e_b1, e_bn, e_andn, fa_or, fa_and, e_m1, e_nneg]
      repeat (first | refine And.intro (fun hh => absurd hh (by omega)) (fun _ => ?_) | refine And.intro (fun _ => ?_) (fun hh => absurd hh (by omega)) | refine And.intro (by omega) ?_)
      exact hag _ rfl
    rintro again3 h rfl
    unfold wp_X11_checksum_L16
    try simp (disch := omega) only [k_0, k_1, k_2, k_3, k_4, k_6, k_7, k_10, k_11, k_12, k_13, k_14, k_16, k_32, k_36, k_40, k_41, k_42, k_43, k_49, k_64, k_80, k_96, k_97, k_100, k_109, k_110, k_127, k_128, k_146, k_147, k_160, k_2304, k_4608, k_13824, nI_add, pk_mul, pk_sub, nI_clamp, q_in, nI_ltI, nI_leI, nI_eq, forall_eq, e_shl, e_bit, e_b0, e_b1, e_bn, e_andn, fa_or, fa_and, e_m1, e_nneg]
    rw [hk0]
    try simp (disch := omega) only [k_0, k_1, k_2, k_3, k_4, k_6, k_7, k_10, k_11, k_12, k_13, k_14, k_16, k_32, k_36, k_40, k_41, k_42, k_43, k_49, k_64, k_80, k_96, k_97, k_100, k_109, k_110, k_127, k_128, k_146, k_147, k_160, k_2304, k_4608, k_13824, nI_add, pk_mul, pk_sub, nI_clamp, q_in, nI_ltI, nI_leI, nI_eq, forall_eq, e_shl, e_bit, e_b0, e_b1, e_bn, e_andn, fa_or, fa_and, e_m1, e_nneg]
    repeat (first | refine And.intro (fun hh => absurd hh (by omega)) (fun _ => ?_) | refine And.intro (fun _ => ?_) (fun hh => absurd hh (by omega)) | refine And.intro (by omega) ?_)
    refine for_X11_checksum_L48 _ _ (6) (fun w h _ _ _ _ _ _ _ _ _ _ _ => h = fld (fun w h => mixW fr k n ar ac (W w) h) (fld (fun x h => mx h (nI (fr x)).toInt64) (mx 67 (nI k).toInt64) k) w) ?_ ?_ (0) _ _ _ _ _ _ _ _ _ _ _ _ _ rfl (Nat.zero_le _) (rfl)
    · rintro again4 w h p1 p2 p3 p4 p5 p6 p7 p8 p9 p10 p11 hw rfl hag
      have ws1 := (hW w hw).1
      have wr1 := hW w hw
      rw [ws1] at wr1
      have wv1 := hWV w hw
      obtain ⟨l161, lk1⟩ := hWS w hw
      have lk61 : ∀ x ∈ W w, x < 6 := fun x h => Nat.lt_of_lt_of_le (lk1 x h) hk6
      unfold wp_X11_checksum_L48
      try simp (disch := omega) only [k_0, k_1, k_2, k_3, k_4, k_6, k_7, k_10, k_11, k_12, k_13, k_14, k_16, k_32, k_36, k_40, k_41, k_42, k_43, k_49, k_64, k_80, k_96, k_97, k_100, k_109, k_110, k_127, k_128, k_146, k_147, k_160, k_2304, k_4608, k_13824, nI_add, pk_mul, pk_sub, nI_clamp, q_in, nI_ltI, nI_leI, nI_eq, forall_eq, e_shl, e_bit, e_b0, e_b1, e_bn, e_andn, fa_or, fa_and, e_m1, e_nneg]
      repeat (first | refine And.intro (fun hh => absurd hh (by omega)) (fun _ => ?_) | refine And.intro (fun _ => ?_) (fun hh => absurd hh (by omega)) | refine And.intro (by omega) ?_)
      refine s_moreOfWord irr sym hk0 hV hk6 hw wv1 lk1 hn0 hac0 hn6 hArV har (fun o1 o2 o3 o4 o5 o6 o7 o8 o9 o10 o11 => ?_)
      exact hag _ _ _ _ _ _ _ _ _ _ _ _ rfl
    rintro again4 h p1 p2 p3 p4 p5 p6 p7 p8 p9 p10 p11 rfl
    unfold wp_X11_checksum_L48
    try simp (disch := omega) only [k_0, k_1, k_2, k_3, k_4, k_6, k_7, k_10, k_11, k_12, k_13, k_14, k_16, k_32, k_36, k_40, k_41, k_42, k_43, k_49, k_64, k_80, k_96, k_97, k_100, k_109, k_110, k_127, k_128, k_146, k_147, k_160, k_2304, k_4608, k_13824, nI_add, pk_mul, pk_sub, nI_clamp, q_in, nI_ltI, nI_leI, nI_eq, forall_eq, e_shl, e_bit, e_b0, e_b1, e_bn, e_andn, fa_or, fa_and, e_m1, e_nneg]
    repeat (first | refine And.intro (fun hh => absurd hh (by omega)) (fun _ => ?_) | refine And.intro (fun _ => ?_) (fun hh => absurd hh (by omega)) | refine And.intro (by omega) ?_)
    have fin2 : ∀ r', r' = r → wp_X11_isClosed B_v B_isApart (fun r_32 t_isApart_33 => ((r_32 = nI 0 → Q (31 * (31 * csum fr k n ar ac W + r'.toInt64) + 0) p1 p2 p3 p4 p5 p6 p7 p8 p9 p10 p11 t_isApart_33) ∧ (¬ r_32 = nI 0 → Q (31 * (31 * csum fr k n ar ac W + r'.toInt64) + 1) p1 p2 p3 p4 p5 p6 p7 p8 p9 p10 p11 t_isApart_33))) := by
      rintro r' rfl
      refine s_isClosedR sym hk0 hn0 hac0 hV hk6 hn1 hn6 hArV hAr6 har (fun ia => ?_)
      cases hc : cl (CLO fr k n ar ac)
      · rw [hc] at hQ; exact br_t (by decide) (hQ _ _ _ _ _ _ _ _ _ _ _ _)
      · rw [hc] at hQ; exact br_f (by decide) (hQ _ _ _ _ _ _ _ _ _ _ _ _)
    refine s_brokenR hk0 hn0 hV hk6 hn6 hArV har (fun q x y h => ?_) (fun h => ?_)
    · exact fin2 _ (bdv_one (Or.inl ⟨q, x, y, h, rfl⟩) hr)
    · exact fin2 _ (bdv_one (Or.inr ⟨h, rfl⟩) hr)
  exact s_findBroken hF hk6 hn6 hAr har (fun q x y h => fin _ (Or.inl ⟨q, x, y, h, rfl⟩)) (fun h => fin _ (Or.inr ⟨h, rfl⟩))
