/-! the state of both, and what it stands for -/
def ST (k : Nat) (fr : Nat → Nat) (W : Nat → List Nat) (n : Nat) (ar : Nat → Nat → Nat) (ac : Nat) : Prop := FR k fr ∧ (∀ w, w < 6 → (W w).length ≤ 16 ∧ ∀ x ∈ W w, x < k) ∧ 1 ≤ n ∧ n ≤ 6 ∧ (∀ q x, q < n → x < 6 → ar q x < n) ∧ ac < 2 ^ n
def RA (cnt : Int32) (free wsz : Nat → Int32) (wlt : Nat → Nat → Int32) (sts acc : Int32) (arr : Nat → Int32) (k : Nat) (fr : Nat → Nat) (W : Nat → List Nat) (n : Nat) (ar : Nat → Nat → Nat) (ac : Nat) : Prop := cnt = nI k ∧ FA free fr ∧ (∀ w, w < 6 → WR (wsz w) (wlt w) (W w)) ∧ sts = nI n ∧ acc = nI ac ∧ ∀ q x, q < n → x < 6 → arr (q * 6 + x) = nI (ar q x)
def RB (v : Nat → Int32) (k : Nat) (fr : Nat → Nat) (W : Nat → List Nat) (n : Nat) (ar : Nat → Nat → Nat) (ac : Nat) : Prop := v 0 = nI k ∧ FV v fr ∧ (∀ w, w < 6 → WV v w (W w)) ∧ v 109 = nI n ∧ v 146 = nI ac ∧ (∀ q x, q < n → x < 6 → v (110 + 6 * q + x) = nI (ar q x)) ∧ ∀ j, j < 36 → ∃ t, t < 6 ∧ v (110 + j) = nI t
def REL (cnt : Int32) (free wsz : Nat → Int32) (wlt : Nat → Nat → Int32) (sts acc : Int32) (arr v : Nat → Int32) : Prop := ∃ k fr W n ar ac, ST k fr W n ar ac ∧ RA cnt free wsz wlt sts acc arr k fr W n ar ac ∧ RB v k fr W n ar ac
theorem up_s {α : Type} {f : Nat → α} {k : Nat} {x : α} : va_up f k x k = x := by simp [va_up]
theorem up_n {α : Type} {f : Nat → α} {k j : Nat} {x : α} (h : j ≠ k) : va_up f k x j = f j := by simp [va_up, h]
theorem REL.word {free wsz : Nat → Int32} {wlt : Nat → Nat → Int32} {arr v : Nat → Int32} {k : Nat} {fr : Nat → Nat} {W : Nat → List Nat} {n : Nat} {ar : Nat → Nat → Nat} {ac : Nat} (hS : ST k fr W n ar ac) (hA : RA (nI k) free wsz wlt (nI n) (nI ac) arr k fr W n ar ac) (hB : RB v k fr W n ar ac) {w : Nat} {u : List Nat} {lt' v' : Nat → Int32} (hw : w < 6) (h16 : u.length ≤ 16) (hu : ∀ x ∈ u, x < k) (hl : WR (nI u.length) lt' u) (hv : WV v' w u) (hfr : ∀ j, j ≠ 7 + w → (j < 13 + 16 * w ∨ 13 + 16 * w + 16 ≤ j) → v' j = v j) : REL (nI k) free (va_up wsz w (nI u.length)) (va_up wlt w lt') (nI n) (nI ac) arr v' := by
  obtain ⟨s1, s2, s3, s4, s5, s6⟩ := hS
  obtain ⟨a1, a2, a3, a4, a5, a6⟩ := hA
  obtain ⟨b1, b2, b3, b4, b5, b6, b7⟩ := hB
  refine ⟨k, fr, va_up W w u, n, ar, ac, ⟨s1, fun j hj => ?_, s3, s4, s5, s6⟩, ⟨rfl, a2, fun j hj => ?_, rfl, rfl, a6⟩, ⟨?_, fun j hj => ?_, fun j hj => ?_, ?_, ?_, fun q x hq hx => ?_, fun j hj => ?_⟩⟩
  · by_cases e : j = w
    · subst e; rw [up_s]; exact ⟨h16, hu⟩
    · rw [up_n e]; exact s2 j hj
  · by_cases e : j = w
    · subst e; rw [up_s, up_s, up_s]; exact hl
    · rw [up_n e, up_n e, up_n e]; exact a3 j hj
  · rw [hfr 0 (by omega) (by omega)]; exact b1
  · rw [hfr (1 + j) (by omega) (by omega)]; exact b2 j hj
  · by_cases e : j = w
    · subst e; rw [up_s]; exact hv
    · rw [up_n e]
      obtain ⟨c1, c2, c3⟩ := b3 j hj
      exact ⟨by rw [hfr _ (by omega) (by omega)]; exact c1, c2, fun i hi => by rw [hfr _ (by omega) (by omega)]; exact c3 i hi⟩
  · rw [hfr 109 (by omega) (by omega)]; exact b4
  · rw [hfr 146 (by omega) (by omega)]; exact b5
  · rw [hfr _ (by omega) (by omega)]; exact b6 q x hq hx
  · obtain ⟨t, h1, h2⟩ := b7 j hj
    exact ⟨t, h1, by rw [hfr _ (by omega) (by omega)]; exact h2⟩
theorem s_word {w : Nat} (h : w < 6) {K : Int32 → Prop} (hK : K 1) : wp_X10_isWord (nI w) K := by
  unfold wp_X10_isWord
  try simp (disch := omega) only [k_0, k_1, k_2, k_3, k_4, k_6, k_7, k_10, k_11, k_12, k_13, k_14, k_16, k_32, k_36, k_40, k_41, k_42, k_43, k_49, k_64, k_80, k_96, k_97, k_100, k_109, k_110, k_127, k_128, k_146, k_147, k_160, k_2304, k_4608, k_13824, nI_add, pk_mul, pk_sub, nI_clamp, q_in, nI_ltI, nI_leI, nI_eq, forall_eq, e_shl, e_bit, e_b0, e_b1, e_bn, e_andn, fa_or, fa_and, e_m1, e_nneg]
  repeat (first | refine And.intro (fun hh => absurd hh (by omega)) (fun _ => ?_) | refine And.intro (fun _ => ?_) (fun hh => absurd hh (by omega)) | refine And.intro (by omega) ?_)
  exact hK
theorem s_wordN {x : Int32} (h : ¬ ∃ w, w < 6 ∧ x = nI w) {K : Int32 → Prop} (hK : K 0) : wp_X10_isWord x K := by
  unfold wp_X10_isWord
  refine ⟨fun _ => hK, fun h0 => ⟨fun _ => hK, fun h1 => ?_⟩⟩
  rcases in_not (by decide) h with q | q
  · exact absurd q h0
  · exact absurd q h1
theorem s_num (b : Bool) {K : Int32 → Prop} (hK : K (bI b)) : wp_X10_toNumber (bI b) K := by
  unfold wp_X10_toNumber
  cases b
  · exact br_t rfl hK
  · exact br_f (by decide) hK
/-- an index of a row, or none -/
theorem s_lon {lt : Nat → Int32} {u : List Nat} (h : WR (nI u.length) lt u) (hu : ∀ x ∈ u, x < 6) {i : Nat} (hi : i < u.length) {K : Int32 → Prop} (hK : K (nI (u.getD i 0))) : wp_X10_letterOrNone (nI u.length) lt (nI i) K := by
  have h1 := hu _ (getD_mem hi)
  unfold wp_X10_letterOrNone
  refine s_at h hi ?_
  exact ⟨fun _ => hK, fun q => absurd ((q_m1 (by omega)).mp q) id⟩
theorem s_lonN {lt : Nat → Int32} {u : List Nat} (h : u.length ≤ 32) {x : Int32} (hx : ¬ ∃ i, i < u.length ∧ x = nI i) {K : Int32 → Prop} (hK : K (-5)) : wp_X10_letterOrNone (nI u.length) lt x K := by
  unfold wp_X10_letterOrNone wp_X9_at
  have e : ((¬ (-1 : Int32) = -1 → K (-1)) ∧ ((-1 : Int32) = -1 → K (-5))) := ⟨fun q => absurd rfl q, fun _ => hK⟩
  refine ⟨fun _ => e, fun h0 => ⟨fun _ => e, fun h1 => ?_⟩⟩
  rcases in_not (by omega) hx with q | q
  · exact absurd q h0
  · exact absurd q h1
theorem s_idx {m i : Nat} (h : i < m) (hm : m < 2 ^ 31) {K : Int32 → Prop} (hK : K 1) : wp_X11_in (nI i) 0 (nI m - 1) K := by
  rw [k_1, pk_sub (by omega)]
  exact s_in (lo := 0) (Nat.zero_le _) (by omega) (by omega) hK
theorem s_idxN {m : Nat} {x : Int32} (hm : m < 2 ^ 31) (hx : ¬ ∃ i, i < m ∧ x = nI i) {K : Int32 → Prop} (hK : K 0) : wp_X11_in x 0 (nI m - 1) K := by
  refine s_inN ?_ hK
  cases m with
  | zero =>
    have e : nI 0 - 1 = (-1 : Int32) := by decide
    rw [e, fa_lt, fa_lt]
    have e0 : (0 : Int32).toInt = 0 := by decide
    have e1 : (-1 : Int32).toInt = -1 := by decide
    omega
  | succ m =>
    rcases in_not hm hx with q | q
    · exact Or.inl q
    · rw [nI_pred]
      exact Or.inr (gt_of_ge hm q)
theorem s_layW {free wsz lA yA bA pA : Nat → Int32} {wlt : Nat → Nat → Int32} {pl ps pt : Int32} {fr : Nat → Nat} {k w : Nat} (hw : w < 6) (hf : FA free fr) (hk : k ≤ 6) {u : List Nat} (hW : WR (wsz w) (wlt w) u) (hu : ∀ x ∈ u, x < k) {K : Int32 → Int32 → Int32 → (Nat → Int32) → (Nat → Int32) → (Nat → Int32) → (Nat → Int32) → Prop} (hK : ∀ a b c d, PL fr u u.length a b c d → K (nI k) (nI u.length) (nI 0) a b c d) : wp_X10_lay (nI k) free wsz wlt pl ps pt lA yA bA pA (nI w) K := by
  unfold wp_X10_lay
  try simp (disch := omega) only [k_0, k_1, k_2, k_3, k_4, k_6, k_7, k_10, k_11, k_12, k_13, k_14, k_16, k_32, k_36, k_40, k_41, k_42, k_43, k_49, k_64, k_80, k_96, k_97, k_100, k_109, k_110, k_127, k_128, k_146, k_147, k_160, k_2304, k_4608, k_13824, nI_add, pk_mul, pk_sub, nI_clamp, q_in, nI_ltI, nI_leI, nI_eq, forall_eq, e_shl, e_bit, e_b0, e_b1, e_bn, e_andn, fa_or, fa_and, e_m1, e_nneg]
  refine ⟨hw, ?_⟩
  have h1 := hW.1
  rw [h1] at hW ⊢
  exact s_lay hf hk hW hu hK
/-! the first methods -/
theorem M_independent {A_now_alphabet_count : Int32} {A_now_alphabet_free : Nat → Int32} {A_now_words_size : Nat → Int32} {A_now_words_letters : Nat → Nat → Int32} {A_now_recogniser_states : Int32} {A_now_recogniser_accepting : Int32} {A_now_recogniser_arrows : Nat → Int32} {B_v : Nat → Int32} (x1 : Int32) (hR : REL A_now_alphabet_count A_now_alphabet_free A_now_words_size A_now_words_letters A_now_recogniser_states A_now_recogniser_accepting A_now_recogniser_arrows B_v) {K : Int32 → Prop} (hK : ∀ (r : Int32), (∀ Q : Int32 → Prop, (Q r) → wp_X11_independent B_v x1 Q) → K r) : wp_X10_independent A_now_alphabet_count A_now_alphabet_free x1 K := by
  have hR0 := hR
  obtain ⟨k, fr, W, n, ar, ac, hS, hA, hB⟩ := hR
  have hS0 := hS
  have hA0 := hA
  have hB0 := hB
  obtain ⟨hFR, hWS, hn1, hn6, har, hacl⟩ := hS
  obtain ⟨rfl, hF, hW, rfl, rfl, hAr⟩ := hA
  obtain ⟨hk0, hV, hWV, hn0, hac0, hArV, hAr6⟩ := hB
  have hk6 := hFR.2.1
  have hk2 := hFR.1
  have irr := hFR.irr
  have sym := hFR.sym
  unfold wp_X10_independent
  rcases in_cases x1 (n := k) (by omega) with ⟨w, hw, rfl⟩ | hx
  · refine s_has hk6 hw ?_
    (first | refine br_t (by decide) ?_ | refine br_f (by decide) ?_ | refine br_t' (by decide) ?_ | refine br_f' (by decide) ?_)
    refine s_freeOf hF (by omega) ?_
    apply hK
    intro Q hQ
    unfold wp_X11_independent
    refine s_isLetter hk0 hk6 hw ?_
    (first | refine br_t (by decide) ?_ | refine br_f (by decide) ?_ | refine br_t' (by decide) ?_ | refine br_f' (by decide) ?_)
    try simp (disch := omega) only [k_0, k_1, k_2, k_3, k_4, k_6, k_7, k_10, k_11, k_12, k_13, k_14, k_16, k_32, k_36, k_40, k_41, k_42, k_43, k_49, k_64, k_80, k_96, k_97, k_100, k_109, k_110, k_127, k_128, k_146, k_147, k_160, k_2304, k_4608, k_13824, nI_add, pk_mul, pk_sub, nI_clamp, q_in, nI_ltI, nI_leI, nI_eq, forall_eq, e_shl, e_bit, e_b0, e_b1, e_bn, e_andn, fa_or, fa_and, e_m1, e_nneg]
    refine ⟨by omega, ?_⟩
    rw [hV w (by omega)]
    exact hQ
  · refine s_hasN hk6 hx ?_
    (first | refine br_t (by decide) ?_ | refine br_f (by decide) ?_ | refine br_t' (by decide) ?_ | refine br_f' (by decide) ?_)
    apply hK
    intro Q hQ
    unfold wp_X11_independent
    refine s_isLetterN hk0 (by omega) hk6 hx ?_
    (first | refine br_t (by decide) ?_ | refine br_f (by decide) ?_ | refine br_t' (by decide) ?_ | refine br_f' (by decide) ?_)
    exact hQ
theorem M_length {A_now_alphabet_count : Int32} {A_now_alphabet_free : Nat → Int32} {A_now_words_size : Nat → Int32} {A_now_words_letters : Nat → Nat → Int32} {A_now_recogniser_states : Int32} {A_now_recogniser_accepting : Int32} {A_now_recogniser_arrows : Nat → Int32} {B_v : Nat → Int32} (x1 : Int32) (hR : REL A_now_alphabet_count A_now_alphabet_free A_now_words_size A_now_words_letters A_now_recogniser_states A_now_recogniser_accepting A_now_recogniser_arrows B_v) {K : Int32 → Prop} (hK : ∀ (r : Int32), (∀ Q : Int32 → Prop, (Q r) → wp_X11_length B_v x1 Q) → K r) : wp_X10_length A_now_words_size x1 K := by
  have hR0 := hR
  obtain ⟨k, fr, W, n, ar, ac, hS, hA, hB⟩ := hR
  have hS0 := hS
  have hA0 := hA
  have hB0 := hB
  obtain ⟨hFR, hWS, hn1, hn6, har, hacl⟩ := hS
  obtain ⟨rfl, hF, hW, rfl, rfl, hAr⟩ := hA
  obtain ⟨hk0, hV, hWV, hn0, hac0, hArV, hAr6⟩ := hB
  have hk6 := hFR.2.1
  have hk2 := hFR.1
  have irr := hFR.irr
  have sym := hFR.sym
  unfold wp_X10_length
  rcases in_cases x1 (n := 6) (by omega) with ⟨w, hw, rfl⟩ | hx
  · refine s_word hw ?_
    (first | refine br_t (by decide) ?_ | refine br_f (by decide) ?_ | refine br_t' (by decide) ?_ | refine br_f' (by decide) ?_)
    try simp (disch := omega) only [k_0, k_1, k_2, k_3, k_4, k_6, k_7, k_10, k_11, k_12, k_13, k_14, k_16, k_32, k_36, k_40, k_41, k_42, k_43, k_49, k_64, k_80, k_96, k_97, k_100, k_109, k_110, k_127, k_128, k_146, k_147, k_160, k_2304, k_4608, k_13824, nI_add, pk_mul, pk_sub, nI_clamp, q_in, nI_ltI, nI_leI, nI_eq, forall_eq, e_shl, e_bit, e_b0, e_b1, e_bn, e_andn, fa_or, fa_and, e_m1, e_nneg]
    refine ⟨hw, ?_⟩
    rw [(hW w hw).1]
    apply hK
    intro Q hQ
    unfold wp_X11_length
    refine s_isWord hw ?_
    (first | refine br_t (by decide) ?_ | refine br_f (by decide) ?_ | refine br_t' (by decide) ?_ | refine br_f' (by decide) ?_)
    try simp (disch := omega) only [k_0, k_1, k_2, k_3, k_4, k_6, k_7, k_10, k_11, k_12, k_13, k_14, k_16, k_32, k_36, k_40, k_41, k_42, k_43, k_49, k_64, k_80, k_96, k_97, k_100, k_109, k_110, k_127, k_128, k_146, k_147, k_160, k_2304, k_4608, k_13824, nI_add, pk_mul, pk_sub, nI_clamp, q_in, nI_ltI, nI_leI, nI_eq, forall_eq, e_shl, e_bit, e_b0, e_b1, e_bn, e_andn, fa_or, fa_and, e_m1, e_nneg]
    refine ⟨by omega, ?_⟩
    rw [(hWV w hw).1]
    exact hQ
  · refine s_wordN hx ?_
    (first | refine br_t (by decide) ?_ | refine br_f (by decide) ?_ | refine br_t' (by decide) ?_ | refine br_f' (by decide) ?_)
    apply hK
    intro Q hQ
    unfold wp_X11_length
    refine s_isWordN hx ?_
    (first | refine br_t (by decide) ?_ | refine br_f (by decide) ?_ | refine br_t' (by decide) ?_ | refine br_f' (by decide) ?_)
    exact hQ
theorem M_letter {A_now_alphabet_count : Int32} {A_now_alphabet_free : Nat → Int32} {A_now_words_size : Nat → Int32} {A_now_words_letters : Nat → Nat → Int32} {A_now_recogniser_states : Int32} {A_now_recogniser_accepting : Int32} {A_now_recogniser_arrows : Nat → Int32} {B_v : Nat → Int32} (x1 x2 : Int32) (hR : REL A_now_alphabet_count A_now_alphabet_free A_now_words_size A_now_words_letters A_now_recogniser_states A_now_recogniser_accepting A_now_recogniser_arrows B_v) {K : Int32 → Prop} (hK : ∀ (r : Int32), (∀ Q : Int32 → Prop, (Q r) → wp_X11_letter B_v x1 x2 Q) → K r) : wp_X10_letter A_now_words_size A_now_words_letters x1 x2 K := by
  have hR0 := hR
  obtain ⟨k, fr, W, n, ar, ac, hS, hA, hB⟩ := hR
  have hS0 := hS
  have hA0 := hA
  have hB0 := hB
  obtain ⟨hFR, hWS, hn1, hn6, har, hacl⟩ := hS
  obtain ⟨rfl, hF, hW, rfl, rfl, hAr⟩ := hA
  obtain ⟨hk0, hV, hWV, hn0, hac0, hArV, hAr6⟩ := hB
  have hk6 := hFR.2.1
  have hk2 := hFR.1
  have irr := hFR.irr
  have sym := hFR.sym
  unfold wp_X10_letter
  rcases in_cases x1 (n := 6) (by omega) with ⟨w, hw, rfl⟩ | hx
  · obtain ⟨l16, lk⟩ := hWS w hw
    have hw1 := hW w hw
    rw [hw1.1] at hw1
    have lk6 : ∀ x ∈ W w, x < 6 := fun x h => Nat.lt_of_lt_of_le (lk x h) hk6
    refine s_word hw ?_
    (first | refine br_t (by decide) ?_ | refine br_f (by decide) ?_ | refine br_t' (by decide) ?_ | refine br_f' (by decide) ?_)
    try simp (disch := omega) only [k_0, k_1, k_2, k_3, k_4, k_6, k_7, k_10, k_11, k_12, k_13, k_14, k_16, k_32, k_36, k_40, k_41, k_42, k_43, k_49, k_64, k_80, k_96, k_97, k_100, k_109, k_110, k_127, k_128, k_146, k_147, k_160, k_2304, k_4608, k_13824, nI_add, pk_mul, pk_sub, nI_clamp, q_in, nI_ltI, nI_leI, nI_eq, forall_eq, e_shl, e_bit, e_b0, e_b1, e_bn, e_andn, fa_or, fa_and, e_m1, e_nneg]
    refine ⟨hw, ?_⟩
    rw [(hW w hw).1]
    rcases in_cases x2 (n := (W w).length) (by omega) with ⟨i, hi, rfl⟩ | hx
    · refine s_lon hw1 lk6 hi ?_
      apply hK
      intro Q hQ
      unfold wp_X11_letter
      refine s_isWord hw ?_
      (first | refine br_t (by decide) ?_ | refine br_f (by decide) ?_ | refine br_t' (by decide) ?_ | refine br_f' (by decide) ?_)
      try simp (disch := omega) only [k_0, k_1, k_2, k_3, k_4, k_6, k_7, k_10, k_11, k_12, k_13, k_14, k_16, k_32, k_36, k_40, k_41, k_42, k_43, k_49, k_64, k_80, k_96, k_97, k_100, k_109, k_110, k_127, k_128, k_146, k_147, k_160, k_2304, k_4608, k_13824, nI_add, pk_mul, pk_sub, nI_clamp, q_in, nI_ltI, nI_leI, nI_eq, forall_eq, e_shl, e_bit, e_b0, e_b1, e_bn, e_andn, fa_or, fa_and, e_m1, e_nneg]
      refine ⟨by omega, ?_⟩
      rw [(hWV w hw).1]
      refine s_idx hi (by omega) ?_
      (first | refine br_t (by decide) ?_ | refine br_f (by decide) ?_ | refine br_t' (by decide) ?_ | refine br_f' (by decide) ?_)
      refine ⟨by omega, ?_⟩
      rw [(hWV w hw).2.2 i hi]
      exact hQ
    · refine s_lonN (by omega) hx ?_
      apply hK
      intro Q hQ
      unfold wp_X11_letter
      refine s_isWord hw ?_
      (first | refine br_t (by decide) ?_ | refine br_f (by decide) ?_ | refine br_t' (by decide) ?_ | refine br_f' (by decide) ?_)
      try simp (disch := omega) only [k_0, k_1, k_2, k_3, k_4, k_6, k_7, k_10, k_11, k_12, k_13, k_14, k_16, k_32, k_36, k_40, k_41, k_42, k_43, k_49, k_64, k_80, k_96, k_97, k_100, k_109, k_110, k_127, k_128, k_146, k_147, k_160, k_2304, k_4608, k_13824, nI_add, pk_mul, pk_sub, nI_clamp, q_in, nI_ltI, nI_leI, nI_eq, forall_eq, e_shl, e_bit, e_b0, e_b1, e_bn, e_andn, fa_or, fa_and, e_m1, e_nneg]
      refine ⟨by omega, ?_⟩
      rw [(hWV w hw).1]
      refine s_idxN (by omega) hx ?_
      (first | refine br_t (by decide) ?_ | refine br_f (by decide) ?_ | refine br_t' (by decide) ?_ | refine br_f' (by decide) ?_)
      exact hQ
  · refine s_wordN hx ?_
    (first | refine br_t (by decide) ?_ | refine br_f (by decide) ?_ | refine br_t' (by decide) ?_ | refine br_f' (by decide) ?_)
    apply hK
    intro Q hQ
    unfold wp_X11_letter
    refine s_isWordN hx ?_
    (first | refine br_t (by decide) ?_ | refine br_f (by decide) ?_ | refine br_t' (by decide) ?_ | refine br_f' (by decide) ?_)
    exact hQ
