/-! words that change -/
theorem WV.push {v : Nat → Int32} {w : Nat} {u : List Nat} (h : WV v w u) (hl : u.length < 16) (x : Nat) : WV (upd (upd v (13 + 16 * w + u.length) (nI x)) (7 + w) (nI (u.length + 1))) w (u ++ [x]) := by
  obtain ⟨h1, h2, h3⟩ := h
  refine ⟨by rw [pk_us]; simp, by simp; omega, fun i hi => ?_⟩
  simp at hi
  rw [pk_un (by omega)]
  by_cases e : i = u.length
  · subst e; rw [pk_us, getD_last]
  · rw [pk_un (by omega), h3 i (by omega), getD_app (by omega)]
theorem up_id {α : Type} {f : Nat → α} {k : Nat} : va_up f k (f k) = f := by
  funext j
  by_cases e : j = k
  · subst e; exact up_s
  · exact up_n e
theorem M_add {A_now_alphabet_count : Int32} {A_now_alphabet_free : Nat → Int32} {A_now_words_size : Nat → Int32} {A_now_words_letters : Nat → Nat → Int32} {A_now_recogniser_states : Int32} {A_now_recogniser_accepting : Int32} {A_now_recogniser_arrows : Nat → Int32} {B_v : Nat → Int32} (x1 x2 : Int32) (hR : REL A_now_alphabet_count A_now_alphabet_free A_now_words_size A_now_words_letters A_now_recogniser_states A_now_recogniser_accepting A_now_recogniser_arrows B_v) {K : Int32 → (Nat → Int32) → (Nat → Nat → Int32) → Prop} (hK : ∀ (r : Int32) A_now_words_size' A_now_words_letters', (∀ Q : Int32 → (Nat → Int32) → Prop, (∀ B_v', REL A_now_alphabet_count A_now_alphabet_free A_now_words_size' A_now_words_letters' A_now_recogniser_states A_now_recogniser_accepting A_now_recogniser_arrows B_v' → Q r B_v') → wp_X11_add B_v x1 x2 Q) → K r A_now_words_size' A_now_words_letters') : wp_X10_add A_now_alphabet_count A_now_words_size A_now_words_letters x1 x2 K := by
  have hR0 := hR
  obtain ⟨k, fr, W, n, ar, ac, hS, hA, hB⟩ := hR
  have hS0 := hS
  have hA0 := hA
  have hB0 := hB
  obtain ⟨hFR, hWS, hn1, hn6, har, hacl⟩ := hS
  obtain ⟨rfl, hF, hW, rfl, rfl, hAr⟩ := hA
  obtain ⟨hk0, hV, hWV, hn0, hac0, hArV, hAr6⟩ := hB
  have hk6 := hFR.2.1
  have hk2 := hFR.1
  have irr := hFR.irr
  have sym := hFR.sym
  unfold wp_X10_add
  rcases in_cases x1 (n := 6) (by omega) with ⟨w, hw, rfl⟩ | hx
  · rcases in_cases x2 (n := k) (by omega) with ⟨x, hx, rfl⟩ | hx
    · obtain ⟨l16, lk⟩ := hWS w hw
      have hw1 := hW w hw
      rw [hw1.1] at hw1
      have hv1 := hWV w hw
      refine s_word hw ?_
      (first | refine br_t (by decide) ?_ | refine br_f (by decide) ?_ | refine br_t' (by decide) ?_ | refine br_f' (by decide) ?_)
      refine s_has hk6 hx ?_
      (first | refine br_t (by decide) ?_ | refine br_f (by decide) ?_ | refine br_t' (by decide) ?_ | refine br_f' (by decide) ?_)
      try simp (disch := omega) only [k_0, k_1, k_2, k_3, k_4, k_6, k_7, k_10, k_11, k_12, k_13, k_14, k_16, k_32, k_36, k_40, k_41, k_42, k_43, k_49, k_64, k_80, k_96, k_97, k_100, k_109, k_110, k_127, k_128, k_146, k_147, k_160, k_2304, k_4608, k_13824, nI_add, pk_mul, pk_sub, nI_clamp, q_in, nI_ltI, nI_leI, nI_eq, forall_eq, e_shl, e_bit, e_b0, e_b1, e_bn, e_andn, fa_or, fa_and, e_m1, e_nneg]
      rw [(hW w hw).1]
      try simp (disch := omega) only [k_0, k_1, k_2, k_3, k_4, k_6, k_7, k_10, k_11, k_12, k_13, k_14, k_16, k_32, k_36, k_40, k_41, k_42, k_43, k_49, k_64, k_80, k_96, k_97, k_100, k_109, k_110, k_127, k_128, k_146, k_147, k_160, k_2304, k_4608, k_13824, nI_add, pk_mul, pk_sub, nI_clamp, q_in, nI_ltI, nI_leI, nI_eq, forall_eq, e_shl, e_bit, e_b0, e_b1, e_bn, e_andn, fa_or, fa_and, e_m1, e_nneg]
      refine ⟨hw, fun hl => ?_, fun hl => ?_⟩
      · refine s_push hw1 (by omega) (fun lt' hl' => ?_)
        rw [up_s]
        apply hK
        intro Q hQ
        unfold wp_X11_add
        refine s_isWord hw ?_
        (first | refine br_t (by decide) ?_ | refine br_f (by decide) ?_ | refine br_t' (by decide) ?_ | refine br_f' (by decide) ?_)
        refine s_isLetter hk0 hk6 hx ?_
        (first | refine br_t (by decide) ?_ | refine br_f (by decide) ?_ | refine br_t' (by decide) ?_ | refine br_f' (by decide) ?_)
        try simp (disch := omega) only [k_0, k_1, k_2, k_3, k_4, k_6, k_7, k_10, k_11, k_12, k_13, k_14, k_16, k_32, k_36, k_40, k_41, k_42, k_43, k_49, k_64, k_80, k_96, k_97, k_100, k_109, k_110, k_127, k_128, k_146, k_147, k_160, k_2304, k_4608, k_13824, nI_add, pk_mul, pk_sub, nI_clamp, q_in, nI_ltI, nI_leI, nI_eq, forall_eq, e_shl, e_bit, e_b0, e_b1, e_bn, e_andn, fa_or, fa_and, e_m1, e_nneg]
        rw [hv1.1]
        try simp (disch := omega) only [k_0, k_1, k_2, k_3, k_4, k_6, k_7, k_10, k_11, k_12, k_13, k_14, k_16, k_32, k_36, k_40, k_41, k_42, k_43, k_49, k_64, k_80, k_96, k_97, k_100, k_109, k_110, k_127, k_128, k_146, k_147, k_160, k_2304, k_4608, k_13824, nI_add, pk_mul, pk_sub, nI_clamp, q_in, nI_ltI, nI_leI, nI_eq, forall_eq, e_shl, e_bit, e_b0, e_b1, e_bn, e_andn, fa_or, fa_and, e_m1, e_nneg]
        rw [pk_us, pk_un (by omega), hv1.1]
        try simp (disch := omega) only [k_0, k_1, k_2, k_3, k_4, k_6, k_7, k_10, k_11, k_12, k_13, k_14, k_16, k_32, k_36, k_40, k_41, k_42, k_43, k_49, k_64, k_80, k_96, k_97, k_100, k_109, k_110, k_127, k_128, k_146, k_147, k_160, k_2304, k_4608, k_13824, nI_add, pk_mul, pk_sub, nI_clamp, q_in, nI_ltI, nI_leI, nI_eq, forall_eq, e_shl, e_bit, e_b0, e_b1, e_bn, e_andn, fa_or, fa_and, e_m1, e_nneg]
        refine ⟨by omega, fun _ => ⟨by omega, by omega, by omega, by omega, by omega, ?_⟩, fun e => absurd e (by omega)⟩
        have e : nI (W w ++ [x]).length = nI ((W w).length + 1) := by simp
        rw [← e]
        apply hQ
        refine REL.word hS0 hA0 hB0 hw (by simp; omega) (fun y hy => ?_) hl' ?_ (fun j h1 h2 => ?_)
        · rcases List.mem_append.mp hy with q | q
          · exact lk y q
          · rw [List.mem_singleton.mp q]; exact hx
        · rw [e]; exact hv1.push hl x
        · rw [pk_un (by omega), pk_un (by omega)]
      · apply hK
        intro Q hQ
        unfold wp_X11_add
        refine s_isWord hw ?_
        (first | refine br_t (by decide) ?_ | refine br_f (by decide) ?_ | refine br_t' (by decide) ?_ | refine br_f' (by decide) ?_)
        refine s_isLetter hk0 hk6 hx ?_
        (first | refine br_t (by decide) ?_ | refine br_f (by decide) ?_ | refine br_t' (by decide) ?_ | refine br_f' (by decide) ?_)
        try simp (disch := omega) only [k_0, k_1, k_2, k_3, k_4, k_6, k_7, k_10, k_11, k_12, k_13, k_14, k_16, k_32, k_36, k_40, k_41, k_42, k_43, k_49, k_64, k_80, k_96, k_97, k_100, k_109, k_110, k_127, k_128, k_146, k_147, k_160, k_2304, k_4608, k_13824, nI_add, pk_mul, pk_sub, nI_clamp, q_in, nI_ltI, nI_leI, nI_eq, forall_eq, e_shl, e_bit, e_b0, e_b1, e_bn, e_andn, fa_or, fa_and, e_m1, e_nneg]
        rw [hv1.1]
        try simp (disch := omega) only [k_0, k_1, k_2, k_3, k_4, k_6, k_7, k_10, k_11, k_12, k_13, k_14, k_16, k_32, k_36, k_40, k_41, k_42, k_43, k_49, k_64, k_80, k_96, k_97, k_100, k_109, k_110, k_127, k_128, k_146, k_147, k_160, k_2304, k_4608, k_13824, nI_add, pk_mul, pk_sub, nI_clamp, q_in, nI_ltI, nI_leI, nI_eq, forall_eq, e_shl, e_bit, e_b0, e_b1, e_bn, e_andn, fa_or, fa_and, e_m1, e_nneg]
        refine ⟨by omega, fun e => absurd (by omega) e, fun _ => ?_⟩
        first | (apply hQ; done) | (apply hQ; exact hR0)
    · refine s_word hw ?_
      (first | refine br_t (by decide) ?_ | refine br_f (by decide) ?_ | refine br_t' (by decide) ?_ | refine br_f' (by decide) ?_)
      refine s_hasN hk6 hx ?_
      (first | refine br_t (by decide) ?_ | refine br_f (by decide) ?_ | refine br_t' (by decide) ?_ | refine br_f' (by decide) ?_)
      apply hK
      intro Q hQ
      unfold wp_X11_add
      refine s_isWord hw ?_
      (first | refine br_t (by decide) ?_ | refine br_f (by decide) ?_ | refine br_t' (by decide) ?_ | refine br_f' (by decide) ?_)
      refine s_isLetterN hk0 (by omega) hk6 hx ?_
      (first | refine br_t (by decide) ?_ | refine br_f (by decide) ?_ | refine br_t' (by decide) ?_ | refine br_f' (by decide) ?_)
      first | (apply hQ; done) | (apply hQ; exact hR0)
  · refine s_wordN hx ?_
    (first | refine br_t (by decide) ?_ | refine br_f (by decide) ?_ | refine br_t' (by decide) ?_ | refine br_f' (by decide) ?_)
    apply hK
    intro Q hQ
    unfold wp_X11_add
    refine s_isWordN hx ?_
    (first | refine br_t (by decide) ?_ | refine br_f (by decide) ?_ | refine br_t' (by decide) ?_ | refine br_f' (by decide) ?_)
    first | (apply hQ; done) | (apply hQ; exact hR0)
theorem M_clear {A_now_alphabet_count : Int32} {A_now_alphabet_free : Nat → Int32} {A_now_words_size : Nat → Int32} {A_now_words_letters : Nat → Nat → Int32} {A_now_recogniser_states : Int32} {A_now_recogniser_accepting : Int32} {A_now_recogniser_arrows : Nat → Int32} {B_v : Nat → Int32} (x1 : Int32) (hR : REL A_now_alphabet_count A_now_alphabet_free A_now_words_size A_now_words_letters A_now_recogniser_states A_now_recogniser_accepting A_now_recogniser_arrows B_v) {K : Int32 → (Nat → Int32) → Prop} (hK : ∀ (r : Int32) A_now_words_size', (∀ Q : Int32 → (Nat → Int32) → Prop, (∀ B_v', REL A_now_alphabet_count A_now_alphabet_free A_now_words_size' A_now_words_letters A_now_recogniser_states A_now_recogniser_accepting A_now_recogniser_arrows B_v' → Q r B_v') → wp_X11_clear B_v x1 Q) → K r A_now_words_size') : wp_X10_clear A_now_words_size x1 K := by
  have hR0 := hR
  obtain ⟨k, fr, W, n, ar, ac, hS, hA, hB⟩ := hR
  have hS0 := hS
  have hA0 := hA
  have hB0 := hB
  obtain ⟨hFR, hWS, hn1, hn6, har, hacl⟩ := hS
  obtain ⟨rfl, hF, hW, rfl, rfl, hAr⟩ := hA
  obtain ⟨hk0, hV, hWV, hn0, hac0, hArV, hAr6⟩ := hB
  have hk6 := hFR.2.1
  have hk2 := hFR.1
  have irr := hFR.irr
  have sym := hFR.sym
  unfold wp_X10_clear
  rcases in_cases x1 (n := 6) (by omega) with ⟨w, hw, rfl⟩ | hx
  · refine s_word hw ?_
    (first | refine br_t (by decide) ?_ | refine br_f (by decide) ?_ | refine br_t' (by decide) ?_ | refine br_f' (by decide) ?_)
    try simp (disch := omega) only [k_0, k_1, k_2, k_3, k_4, k_6, k_7, k_10, k_11, k_12, k_13, k_14, k_16, k_32, k_36, k_40, k_41, k_42, k_43, k_49, k_64, k_80, k_96, k_97, k_100, k_109, k_110, k_127, k_128, k_146, k_147, k_160, k_2304, k_4608, k_13824, nI_add, pk_mul, pk_sub, nI_clamp, q_in, nI_ltI, nI_leI, nI_eq, forall_eq, e_shl, e_bit, e_b0, e_b1, e_bn, e_andn, fa_or, fa_and, e_m1, e_nneg]
    refine ⟨hw, hw, ?_⟩
    unfold wp_X9_empty
    rw [(hW w hw).1]
    apply hK
    intro Q hQ
    unfold wp_X11_clear
    refine s_isWord hw ?_
    (first | refine br_t (by decide) ?_ | refine br_f (by decide) ?_ | refine br_t' (by decide) ?_ | refine br_f' (by decide) ?_)
    try simp (disch := omega) only [k_0, k_1, k_2, k_3, k_4, k_6, k_7, k_10, k_11, k_12, k_13, k_14, k_16, k_32, k_36, k_40, k_41, k_42, k_43, k_49, k_64, k_80, k_96, k_97, k_100, k_109, k_110, k_127, k_128, k_146, k_147, k_160, k_2304, k_4608, k_13824, nI_add, pk_mul, pk_sub, nI_clamp, q_in, nI_ltI, nI_leI, nI_eq, forall_eq, e_shl, e_bit, e_b0, e_b1, e_bn, e_andn, fa_or, fa_and, e_m1, e_nneg]
    refine ⟨by omega, by omega, ?_⟩
    rw [(hWV w hw).1]
    apply hQ
    have h := REL.word (u := []) (lt' := A_now_words_letters w) hS0 hA0 hB0 hw (by simp) (fun y hy => absurd hy List.not_mem_nil) ⟨rfl, by simp, fun i hi => absurd hi (Nat.not_lt_zero _)⟩ ⟨pk_us, by simp, fun i hi => absurd hi (Nat.not_lt_zero _)⟩ (fun j h1 h2 => by rw [pk_un (by omega)])
    rw [up_id] at h
    exact h
  · refine s_wordN hx ?_
    (first | refine br_t (by decide) ?_ | refine br_f (by decide) ?_ | refine br_t' (by decide) ?_ | refine br_f' (by decide) ?_)
    apply hK
    intro Q hQ
    unfold wp_X11_clear
    refine s_isWordN hx ?_
    (first | refine br_t (by decide) ?_ | refine br_f (by decide) ?_ | refine br_t' (by decide) ?_ | refine br_f' (by decide) ?_)
    first | (apply hQ; done) | (apply hQ; exact hR0)
/-! letters -/
theorem s_frees {v : Nat → Int32} {fr : Nat → Nat} (hf : FV v fr) {a b : Nat} (ha : a < 6) (hb : b < 6) (on : Bool) {K : (Nat → Int32) → Prop} (hK : ∀ v', FV v' (frees fr a b on) → (∀ j, j ≠ 1 + a → v' j = v j) → K v') : wp_X11_frees v (nI a) (nI b) (bI on) K := by
  unfold wp_X11_frees
  try simp (disch := omega) only [k_0, k_1, k_2, k_3, k_4, k_6, k_7, k_10, k_11, k_12, k_13, k_14, k_16, k_32, k_36, k_40, k_41, k_42, k_43, k_49, k_64, k_80, k_96, k_97, k_100, k_109, k_110, k_127, k_128, k_146, k_147, k_160, k_2304, k_4608, k_13824, nI_add, pk_mul, pk_sub, nI_clamp, q_in, nI_ltI, nI_leI, nI_eq, forall_eq, e_shl, e_bit, e_b0, e_b1, e_bn, e_andn, fa_or, fa_and, e_m1, e_nneg]
  rw [hf a ha]
  try simp (disch := omega) only [k_0, k_1, k_2, k_3, k_4, k_6, k_7, k_10, k_11, k_12, k_13, k_14, k_16, k_32, k_36, k_40, k_41, k_42, k_43, k_49, k_64, k_80, k_96, k_97, k_100, k_109, k_110, k_127, k_128, k_146, k_147, k_160, k_2304, k_4608, k_13824, nI_add, pk_mul, pk_sub, nI_clamp, q_in, nI_ltI, nI_leI, nI_eq, forall_eq, e_shl, e_bit, e_b0, e_b1, e_bn, e_andn, fa_or, fa_and, e_m1, e_nneg]
  cases on with
  | true =>
    refine br_f (by decide) ⟨by omega, by omega, ?_⟩
    refine hK _ (fun j hj => ?_) (fun j hj => pk_un hj)
    unfold frees
    by_cases e : j = a
    · subst e; rw [pk_us, if_pos rfl, if_pos rfl]
    · rw [pk_un (by omega), if_neg e]; exact hf j hj
  | false =>
    refine br_t (by decide) ⟨by omega, by omega, ?_⟩
    refine hK _ (fun j hj => ?_) (fun j hj => pk_un hj)
    unfold frees
    by_cases e : j = a
    · subst e; rw [pk_us, if_pos rfl, if_neg (by decide)]
    · rw [pk_un (by omega), if_neg e]; exact hf j hj
theorem M_setIndependent {A_now_alphabet_count : Int32} {A_now_alphabet_free : Nat → Int32} {A_now_words_size : Nat → Int32} {A_now_words_letters : Nat → Nat → Int32} {A_now_recogniser_states : Int32} {A_now_recogniser_accepting : Int32} {A_now_recogniser_arrows : Nat → Int32} {B_v : Nat → Int32} (x1 x2 x3 : Int32) (hb : ∃ b, x3 = bI b) (hR : REL A_now_alphabet_count A_now_alphabet_free A_now_words_size A_now_words_letters A_now_recogniser_states A_now_recogniser_accepting A_now_recogniser_arrows B_v) {K : Int32 → (Nat → Int32) → Prop} (hK : ∀ (r : Int32) A_now_alphabet_free', (∀ Q : Int32 → (Nat → Int32) → Prop, (∀ B_v', REL A_now_alphabet_count A_now_alphabet_free' A_now_words_size A_now_words_letters A_now_recogniser_states A_now_recogniser_accepting A_now_recogniser_arrows B_v' → Q r B_v') → wp_X11_setIndependent B_v x1 x2 x3 Q) → K r A_now_alphabet_free') : wp_X10_setIndependent A_now_alphabet_count A_now_alphabet_free x1 x2 x3 K := by
  have hR0 := hR
  obtain ⟨k, fr, W, n, ar, ac, hS, hA, hB⟩ := hR
  have hS0 := hS
  have hA0 := hA
  have hB0 := hB
  obtain ⟨hFR, hWS, hn1, hn6, har, hacl⟩ := hS
  obtain ⟨rfl, hF, hW, rfl, rfl, hAr⟩ := hA
  obtain ⟨hk0, hV, hWV, hn0, hac0, hArV, hAr6⟩ := hB
  have hk6 := hFR.2.1
  have hk2 := hFR.1
  have irr := hFR.irr
  have sym := hFR.sym
  unfold wp_X10_setIndependent
  obtain ⟨on, rfl⟩ := hb
  rcases in_cases x1 (n := k) (by omega) with ⟨a, ha, rfl⟩ | hx
  · rcases in_cases x2 (n := k) (by omega) with ⟨b, hb, rfl⟩ | hx
    · refine s_has hk6 ha ?_
      (first | refine br_t (by decide) ?_ | refine br_f (by decide) ?_ | refine br_t' (by decide) ?_ | refine br_f' (by decide) ?_)
      refine s_has hk6 hb ?_
      (first | refine br_t (by decide) ?_ | refine br_f (by decide) ?_ | refine br_t' (by decide) ?_ | refine br_f' (by decide) ?_)
      try simp (disch := omega) only [k_0, k_1, k_2, k_3, k_4, k_6, k_7, k_10, k_11, k_12, k_13, k_14, k_16, k_32, k_36, k_40, k_41, k_42, k_43, k_49, k_64, k_80, k_96, k_97, k_100, k_109, k_110, k_127, k_128, k_146, k_147, k_160, k_2304, k_4608, k_13824, nI_add, pk_mul, pk_sub, nI_clamp, q_in, nI_ltI, nI_leI, nI_eq, forall_eq, e_shl, e_bit, e_b0, e_b1, e_bn, e_andn, fa_or, fa_and, e_m1, e_nneg]
      refine ⟨fun hab => ?_, fun hab => ?_⟩
      · refine s_areFree hF hk6 (by omega) hb (s_join hF hk6 ha hb hab on (fun free' hf' => s_num _ ?_))
        apply hK
        intro Q hQ
        unfold wp_X11_setIndependent
        refine s_isLetter hk0 hk6 ha ?_
        (first | refine br_t (by decide) ?_ | refine br_f (by decide) ?_ | refine br_t' (by decide) ?_ | refine br_f' (by decide) ?_)
        refine s_isLetter hk0 hk6 hb ?_
        (first | refine br_t (by decide) ?_ | refine br_f (by decide) ?_ | refine br_t' (by decide) ?_ | refine br_f' (by decide) ?_)
        try simp (disch := omega) only [k_0, k_1, k_2, k_3, k_4, k_6, k_7, k_10, k_11, k_12, k_13, k_14, k_16, k_32, k_36, k_40, k_41, k_42, k_43, k_49, k_64, k_80, k_96, k_97, k_100, k_109, k_110, k_127, k_128, k_146, k_147, k_160, k_2304, k_4608, k_13824, nI_add, pk_mul, pk_sub, nI_clamp, q_in, nI_ltI, nI_leI, nI_eq, forall_eq, e_shl, e_bit, e_b0, e_b1, e_bn, e_andn, fa_or, fa_and, e_m1, e_nneg]
        refine ⟨fun _ => s_free hV (by omega) (by omega) ?_, fun e => absurd e hab⟩
        have key : ∀ c, c = bI (ind fr a b) → wp_X11_setIndependent_J37 Q B_v (nI a) (nI b) (bI on) c := by
          rintro c rfl
          unfold wp_X11_setIndependent_J37
          refine s_frees hV (by omega) (by omega) on (fun v1 h1 f1 => s_frees h1 (by omega) (by omega) on (fun v2 h2 f2 => ?_))
          apply hQ
          obtain ⟨b1, b2, b3, b4, b5, b6, b7⟩ := hB0
          have fr12 : ∀ j, (j = 0 ∨ 7 ≤ j) → v2 j = B_v j := fun j hj => by rw [f2 j (by omega), f1 j (by omega)]
          refine ⟨k, setI fr a b on, W, n, ar, ac, ⟨hFR.set ha hb hab on, hWS, hn1, hn6, har, hacl⟩, ⟨rfl, hf', hW, rfl, rfl, hAr⟩, ⟨by rw [fr12 0 (by omega)]; exact b1, h2, fun w hw => ?_, by rw [fr12 109 (by omega)]; exact b4, by rw [fr12 146 (by omega)]; exact b5, fun q x hq hx => by rw [fr12 _ (by omega)]; exact b6 q x hq hx, fun j hj => ?_⟩⟩
          · obtain ⟨c1, c2, c3⟩ := b3 w hw
            exact ⟨by rw [fr12 _ (by omega)]; exact c1, c2, fun i hi => by rw [fr12 _ (by omega)]; exact c3 i hi⟩
          · obtain ⟨t, h1, h2⟩ := b7 j hj
            exact ⟨t, h1, by rw [fr12 _ (by omega)]; exact h2⟩
        cases hi : ind fr a b with
        | true => rw [hi] at key; exact br_f (by decide) (key _ rfl)
        | false => rw [hi] at key; exact br_t (by decide) (key _ rfl)
      · apply hK
        intro Q hQ
        unfold wp_X11_setIndependent
        refine s_isLetter hk0 hk6 ha ?_
        (first | refine br_t (by decide) ?_ | refine br_f (by decide) ?_ | refine br_t' (by decide) ?_ | refine br_f' (by decide) ?_)
        refine s_isLetter hk0 hk6 hb ?_
        (first | refine br_t (by decide) ?_ | refine br_f (by decide) ?_ | refine br_t' (by decide) ?_ | refine br_f' (by decide) ?_)
        try simp (disch := omega) only [k_0, k_1, k_2, k_3, k_4, k_6, k_7, k_10, k_11, k_12, k_13, k_14, k_16, k_32, k_36, k_40, k_41, k_42, k_43, k_49, k_64, k_80, k_96, k_97, k_100, k_109, k_110, k_127, k_128, k_146, k_147, k_160, k_2304, k_4608, k_13824, nI_add, pk_mul, pk_sub, nI_clamp, q_in, nI_ltI, nI_leI, nI_eq, forall_eq, e_shl, e_bit, e_b0, e_b1, e_bn, e_andn, fa_or, fa_and, e_m1, e_nneg]
        refine ⟨fun e => absurd hab e, fun _ => ?_⟩
        first | (apply hQ; done) | (apply hQ; exact hR0)
    · refine s_has hk6 ha ?_
      (first | refine br_t (by decide) ?_ | refine br_f (by decide) ?_ | refine br_t' (by decide) ?_ | refine br_f' (by decide) ?_)
      refine s_hasN hk6 hx ?_
      (first | refine br_t (by decide) ?_ | refine br_f (by decide) ?_ | refine br_t' (by decide) ?_ | refine br_f' (by decide) ?_)
      apply hK
      intro Q hQ
      unfold wp_X11_setIndependent
      refine s_isLetter hk0 hk6 ha ?_
      (first | refine br_t (by decide) ?_ | refine br_f (by decide) ?_ | refine br_t' (by decide) ?_ | refine br_f' (by decide) ?_)
      refine s_isLetterN hk0 (by omega) hk6 hx ?_
      (first | refine br_t (by decide) ?_ | refine br_f (by decide) ?_ | refine br_t' (by decide) ?_ | refine br_f' (by decide) ?_)
      first | (apply hQ; done) | (apply hQ; exact hR0)
  · refine s_hasN hk6 hx ?_
    (first | refine br_t (by decide) ?_ | refine br_f (by decide) ?_ | refine br_t' (by decide) ?_ | refine br_f' (by decide) ?_)
    apply hK
    intro Q hQ
    unfold wp_X11_setIndependent
    refine s_isLetterN hk0 (by omega) hk6 hx ?_
    (first | refine br_t (by decide) ?_ | refine br_f (by decide) ?_ | refine br_t' (by decide) ?_ | refine br_f' (by decide) ?_)
    first | (apply hQ; done) | (apply hQ; exact hR0)
theorem s_begin5 {ss aa : Int32} {arr : Nat → Int32} {m : Nat} {K : Int32 → Int32 → (Nat → Int32) → Prop} (hK : ∀ arr', (∀ q x, q < 6 → x < 6 → arr' (q * 6 + x) = nI q) → K (nI m) (nI 0) arr') : wp_X5_begin ss aa arr (nI m) K := by
  unfold wp_X5_begin
  refine for_X5_begin_L12 _ (6) (fun i a => ∀ q x, q < i → x < 6 → a (q * 6 + x) = nI q) ?_ ?_ (0) _ _ rfl (Nat.zero_le _) (fun q x hq => absurd hq (Nat.not_lt_zero _))
  · intro again i a hi hJ hag
    unfold wp_X5_begin_L12
    try simp (disch := omega) only [k_0, k_1, k_2, k_3, k_4, k_6, k_7, k_10, k_11, k_12, k_13, k_14, k_16, k_32, k_36, k_40, k_41, k_42, k_43, k_49, k_64, k_80, k_96, k_97, k_100, k_109, k_110, k_127, k_128, k_146, k_147, k_160, k_2304, k_4608, k_13824, nI_add, pk_mul, pk_sub, nI_clamp, q_in, nI_ltI, nI_leI, nI_eq, forall_eq, e_shl, e_bit, e_b0, e_b1, e_bn, e_andn, fa_or, fa_and, e_m1, e_nneg]
    repeat (first | refine And.intro (fun hh => absurd hh (by omega)) (fun _ => ?_) | refine And.intro (fun _ => ?_) (fun hh => absurd hh (by omega)) | refine And.intro (by omega) ?_)
    refine for_X5_begin_L20 _ _ (6) (fun j a => (∀ q x, q < i → x < 6 → a (q * 6 + x) = nI q) ∧ ∀ x, x < j → a (i * 6 + x) = nI i) ?_ ?_ (0) _ _ rfl (Nat.zero_le _) (⟨hJ, fun x hx => absurd hx (Nat.not_lt_zero _)⟩)
    · rintro again2 j a2 hj ⟨h1, h2⟩ hag2
      unfold wp_X5_begin_L20
      try simp (disch := omega) only [k_0, k_1, k_2, k_3, k_4, k_6, k_7, k_10, k_11, k_12, k_13, k_14, k_16, k_32, k_36, k_40, k_41, k_42, k_43, k_49, k_64, k_80, k_96, k_97, k_100, k_109, k_110, k_127, k_128, k_146, k_147, k_160, k_2304, k_4608, k_13824, nI_add, pk_mul, pk_sub, nI_clamp, q_in, nI_ltI, nI_leI, nI_eq, forall_eq, e_shl, e_bit, e_b0, e_b1, e_bn, e_andn, fa_or, fa_and, e_m1, e_nneg]
      repeat (first | refine And.intro (fun hh => absurd hh (by omega)) (fun _ => ?_) | refine And.intro (fun _ => ?_) (fun hh => absurd hh (by omega)) | refine And.intro (by omega) ?_)
      refine hag2 _ ⟨fun q x hq hx => by rw [pk_un (by omega)]; exact h1 q x hq hx, fun x hx => ?_⟩
      by_cases e : x = j
      · subst e; exact pk_us
      · rw [pk_un (by omega)]; exact h2 x (by omega)
    · rintro again2 a2 ⟨h1, h2⟩
      unfold wp_X5_begin_L20
      try simp (disch := omega) only [k_0, k_1, k_2, k_3, k_4, k_6, k_7, k_10, k_11, k_12, k_13, k_14, k_16, k_32, k_36, k_40, k_41, k_42, k_43, k_49, k_64, k_80, k_96, k_97, k_100, k_109, k_110, k_127, k_128, k_146, k_147, k_160, k_2304, k_4608, k_13824, nI_add, pk_mul, pk_sub, nI_clamp, q_in, nI_ltI, nI_leI, nI_eq, forall_eq, e_shl, e_bit, e_b0, e_b1, e_bn, e_andn, fa_or, fa_and, e_m1, e_nneg]
      repeat (first | refine And.intro (fun hh => absurd hh (by omega)) (fun _ => ?_) | refine And.intro (fun _ => ?_) (fun hh => absurd hh (by omega)) | refine And.intro (by omega) ?_)
      refine hag _ (fun q x hq hx => ?_)
      by_cases e : q = i
      · subst e; exact h2 x hx
      · exact h1 q x (by omega) hx
  · intro again a hJ
    unfold wp_X5_begin_L12
    try simp (disch := omega) only [k_0, k_1, k_2, k_3, k_4, k_6, k_7, k_10, k_11, k_12, k_13, k_14, k_16, k_32, k_36, k_40, k_41, k_42, k_43, k_49, k_64, k_80, k_96, k_97, k_100, k_109, k_110, k_127, k_128, k_146, k_147, k_160, k_2304, k_4608, k_13824, nI_add, pk_mul, pk_sub, nI_clamp, q_in, nI_ltI, nI_leI, nI_eq, forall_eq, e_shl, e_bit, e_b0, e_b1, e_bn, e_andn, fa_or, fa_and, e_m1, e_nneg]
    repeat (first | refine And.intro (fun hh => absurd hh (by omega)) (fun _ => ?_) | refine And.intro (fun _ => ?_) (fun hh => absurd hh (by omega)) | refine And.intro (by omega) ?_)
    exact hK _ hJ
theorem s_begin6 {cc ss aa : Int32} {ff wz arr : Nat → Int32} {m : Nat} {K : Int32 → (Nat → Int32) → (Nat → Int32) → Int32 → Int32 → (Nat → Int32) → Prop} (hK : ∀ f' w' a', FA f' (fun _ => 0) → (∀ w, w < 6 → w' w = nI 0) → (∀ q x, q < 6 → x < 6 → a' (q * 6 + x) = nI q) → K (nI m) f' w' (nI 1) (nI 0) a') : wp_X6_begin cc ff wz ss aa arr (nI m) K := by
  unfold wp_X6_begin
  refine s_begin0 (fun f' hf' => ?_)
  refine for_X6_begin_L10 _ (6) (fun i z => ∀ w, w < i → z w = nI 0) ?_ ?_ (0) _ _ rfl (Nat.zero_le _) (fun w hw => absurd hw (Nat.not_lt_zero _))
  · intro again i z hi hJ hag
    unfold wp_X6_begin_L10 wp_X9_empty
    try simp (disch := omega) only [k_0, k_1, k_2, k_3, k_4, k_6, k_7, k_10, k_11, k_12, k_13, k_14, k_16, k_32, k_36, k_40, k_41, k_42, k_43, k_49, k_64, k_80, k_96, k_97, k_100, k_109, k_110, k_127, k_128, k_146, k_147, k_160, k_2304, k_4608, k_13824, nI_add, pk_mul, pk_sub, nI_clamp, q_in, nI_ltI, nI_leI, nI_eq, forall_eq, e_shl, e_bit, e_b0, e_b1, e_bn, e_andn, fa_or, fa_and, e_m1, e_nneg]
    repeat (first | refine And.intro (fun hh => absurd hh (by omega)) (fun _ => ?_) | refine And.intro (fun _ => ?_) (fun hh => absurd hh (by omega)) | refine And.intro (by omega) ?_)
    refine hag _ (fun w hw => ?_)
    by_cases e : w = i
    · subst e; exact up_s
    · rw [up_n e]; exact hJ w (by omega)
  · intro again z hJ
    unfold wp_X6_begin_L10
    try simp (disch := omega) only [k_0, k_1, k_2, k_3, k_4, k_6, k_7, k_10, k_11, k_12, k_13, k_14, k_16, k_32, k_36, k_40, k_41, k_42, k_43, k_49, k_64, k_80, k_96, k_97, k_100, k_109, k_110, k_127, k_128, k_146, k_147, k_160, k_2304, k_4608, k_13824, nI_add, pk_mul, pk_sub, nI_clamp, q_in, nI_ltI, nI_leI, nI_eq, forall_eq, e_shl, e_bit, e_b0, e_b1, e_bn, e_andn, fa_or, fa_and, e_m1, e_nneg]
    repeat (first | refine And.intro (fun hh => absurd hh (by omega)) (fun _ => ?_) | refine And.intro (fun _ => ?_) (fun hh => absurd hh (by omega)) | refine And.intro (by omega) ?_)
    exact s_begin5 (m := 1) (fun a' ha' => hK _ _ _ hf' hJ ha')
theorem s_beginsStates {v : Nat → Int32} {m : Nat} {K : (Nat → Int32) → Prop} (hK : ∀ v', v' 109 = nI m → v' 146 = nI 0 → (∀ q x, q < 6 → x < 6 → v' (110 + 6 * q + x) = nI q) → (∀ j, j < 109 → v' j = v j) → K v') : wp_X11_beginsStates v (nI m) K := by
  unfold wp_X11_beginsStates
  try simp (disch := omega) only [k_0, k_1, k_2, k_3, k_4, k_6, k_7, k_10, k_11, k_12, k_13, k_14, k_16, k_32, k_36, k_40, k_41, k_42, k_43, k_49, k_64, k_80, k_96, k_97, k_100, k_109, k_110, k_127, k_128, k_146, k_147, k_160, k_2304, k_4608, k_13824, nI_add, pk_mul, pk_sub, nI_clamp, q_in, nI_ltI, nI_leI, nI_eq, forall_eq, e_shl, e_bit, e_b0, e_b1, e_bn, e_andn, fa_or, fa_and, e_m1, e_nneg]
  repeat (first | refine And.intro (fun hh => absurd hh (by omega)) (fun _ => ?_) | refine And.intro (fun _ => ?_) (fun hh => absurd hh (by omega)) | refine And.intro (by omega) ?_)
  refine for_X11_beginsStates_L19 _ (36) (fun i v' => v' 109 = nI m ∧ v' 146 = nI 0 ∧ (∀ j, j < i → v' (110 + j) = nI (j / 6)) ∧ ∀ j, j < 109 → v' j = v j) ?_ ?_ (0) _ _ rfl (Nat.zero_le _) (⟨by rw [pk_un (by decide), pk_us], pk_us, fun j hj => absurd hj (Nat.not_lt_zero _), fun j hj => by rw [pk_un (by omega), pk_un (by omega)]⟩)
  · rintro again i v' hi ⟨h1, h2, h3, h4⟩ hag
    unfold wp_X11_beginsStates_L19
    try simp (disch := omega) only [k_0, k_1, k_2, k_3, k_4, k_6, k_7, k_10, k_11, k_12, k_13, k_14, k_16, k_32, k_36, k_40, k_41, k_42, k_43, k_49, k_64, k_80, k_96, k_97, k_100, k_109, k_110, k_127, k_128, k_146, k_147, k_160, k_2304, k_4608, k_13824, nI_add, pk_mul, pk_sub, nI_clamp, q_in, nI_ltI, nI_leI, nI_eq, forall_eq, e_shl, e_bit, e_b0, e_b1, e_bn, e_andn, fa_or, fa_and, e_m1, e_nneg, pk_div]
    repeat (first | refine And.intro (fun hh => absurd hh (by omega)) (fun _ => ?_) | refine And.intro (fun _ => ?_) (fun hh => absurd hh (by omega)) | refine And.intro (by omega) ?_)
    refine hag _ ⟨by rw [pk_un (by omega)]; exact h1, by rw [pk_un (by omega)]; exact h2, fun j hj => ?_, fun j hj => by rw [pk_un (by omega)]; exact h4 j hj⟩
    by_cases e : j = i
    · subst e; exact pk_us
    · rw [pk_un (by omega)]; exact h3 j (by omega)
  · rintro again v' ⟨h1, h2, h3, h4⟩
    unfold wp_X11_beginsStates_L19
    try simp (disch := omega) only [k_0, k_1, k_2, k_3, k_4, k_6, k_7, k_10, k_11, k_12, k_13, k_14, k_16, k_32, k_36, k_40, k_41, k_42, k_43, k_49, k_64, k_80, k_96, k_97, k_100, k_109, k_110, k_127, k_128, k_146, k_147, k_160, k_2304, k_4608, k_13824, nI_add, pk_mul, pk_sub, nI_clamp, q_in, nI_ltI, nI_leI, nI_eq, forall_eq, e_shl, e_bit, e_b0, e_b1, e_bn, e_andn, fa_or, fa_and, e_m1, e_nneg]
    repeat (first | refine And.intro (fun hh => absurd hh (by omega)) (fun _ => ?_) | refine And.intro (fun _ => ?_) (fun hh => absurd hh (by omega)) | refine And.intro (by omega) ?_)
    refine hK _ h1 h2 (fun q x hq hx => ?_) h4
    have := h3 (6 * q + x) (by omega)
    rw [← Nat.add_assoc] at this
    rw [this]
    congr 1
    omega
theorem M_setLetters {A_now_alphabet_count : Int32} {A_now_alphabet_free : Nat → Int32} {A_now_words_size : Nat → Int32} {A_now_words_letters : Nat → Nat → Int32} {A_now_recogniser_states : Int32} {A_now_recogniser_accepting : Int32} {A_now_recogniser_arrows : Nat → Int32} {B_v : Nat → Int32} (x1 : Int32) (hR : REL A_now_alphabet_count A_now_alphabet_free A_now_words_size A_now_words_letters A_now_recogniser_states A_now_recogniser_accepting A_now_recogniser_arrows B_v) {K : Int32 → Int32 → (Nat → Int32) → (Nat → Int32) → Int32 → Int32 → (Nat → Int32) → Prop} (hK : ∀ (r : Int32) A_now_alphabet_count' A_now_alphabet_free' A_now_words_size' A_now_recogniser_states' A_now_recogniser_accepting' A_now_recogniser_arrows', (∀ Q : Int32 → (Nat → Int32) → Prop, (∀ B_v', REL A_now_alphabet_count' A_now_alphabet_free' A_now_words_size' A_now_words_letters A_now_recogniser_states' A_now_recogniser_accepting' A_now_recogniser_arrows' B_v' → Q r B_v') → wp_X11_setLetters B_v x1 Q) → K r A_now_alphabet_count' A_now_alphabet_free' A_now_words_size' A_now_recogniser_states' A_now_recogniser_accepting' A_now_recogniser_arrows') : wp_X10_setLetters A_now_alphabet_count A_now_alphabet_free A_now_words_size A_now_recogniser_states A_now_recogniser_accepting A_now_recogniser_arrows x1 K := by
  have hR0 := hR
  obtain ⟨k, fr, W, n, ar, ac, hS, hA, hB⟩ := hR
  have hS0 := hS
  have hA0 := hA
  have hB0 := hB
  obtain ⟨hFR, hWS, hn1, hn6, har, hacl⟩ := hS
  obtain ⟨rfl, hF, hW, rfl, rfl, hAr⟩ := hA
  obtain ⟨hk0, hV, hWV, hn0, hac0, hArV, hAr6⟩ := hB
  have hk6 := hFR.2.1
  have hk2 := hFR.1
  have irr := hFR.irr
  have sym := hFR.sym
  unfold wp_X10_setLetters
  by_cases h1 : x1 < 2
  · refine br_t h1 ?_
    apply hK
    intro Q hQ
    unfold wp_X11_setLetters
    refine s_inN (Or.inl h1) ?_
    (first | refine br_t (by decide) ?_ | refine br_f (by decide) ?_ | refine br_t' (by decide) ?_ | refine br_f' (by decide) ?_)
    first | (apply hQ; done) | (apply hQ; exact hR0)
  · refine br_f h1 ?_
    by_cases h2 : x1 ≤ 6
    · have h0 : ¬ x1 < 0 := fun h => h1 (by
        rw [fa_lt] at h ⊢
        have e0 : (0 : Int32).toInt = 0 := by decide
        have e2 : (2 : Int32).toInt = 2 := by decide
        omega)
      obtain ⟨m, hm, rfl⟩ := nI_of2 (n := 6) (by decide) h0 h2
      have hm2 : 2 ≤ m := by
        rcases Nat.lt_or_ge m 2 with q | q
        · exact absurd (nI_lt q (by decide)) h1
        · exact q
      refine br_t h2 (s_begin6 (fun f' w' a' hf' hw' ha' => ?_))
      apply hK
      intro Q hQ
      unfold wp_X11_setLetters
      refine s_in (lo := 2) (hi := 6) hm2 hm (by decide) ?_
      (first | refine br_t (by decide) ?_ | refine br_f (by decide) ?_ | refine br_t' (by decide) ?_ | refine br_f' (by decide) ?_)
      try simp (disch := omega) only [k_0, k_1, k_2, k_3, k_4, k_6, k_7, k_10, k_11, k_12, k_13, k_14, k_16, k_32, k_36, k_40, k_41, k_42, k_43, k_49, k_64, k_80, k_96, k_97, k_100, k_109, k_110, k_127, k_128, k_146, k_147, k_160, k_2304, k_4608, k_13824, nI_add, pk_mul, pk_sub, nI_clamp, q_in, nI_ltI, nI_leI, nI_eq, forall_eq, e_shl, e_bit, e_b0, e_b1, e_bn, e_andn, fa_or, fa_and, e_m1, e_nneg]
      rw [hk0]
      refine ⟨by decide, by decide, ?_⟩
      refine for_X11_setLetters_L29 _ (6) (fun i v' => v' 0 = nI m ∧ ∀ j, j < i → v' (1 + j) = nI 0 ∧ v' (7 + j) = nI 0) ?_ ?_ (0) _ _ rfl (Nat.zero_le _) (⟨pk_us, fun j hj => absurd hj (Nat.not_lt_zero _)⟩)
      · rintro again i v' hi ⟨g1, g2⟩ hag
        unfold wp_X11_setLetters_L29
        try simp (disch := omega) only [k_0, k_1, k_2, k_3, k_4, k_6, k_7, k_10, k_11, k_12, k_13, k_14, k_16, k_32, k_36, k_40, k_41, k_42, k_43, k_49, k_64, k_80, k_96, k_97, k_100, k_109, k_110, k_127, k_128, k_146, k_147, k_160, k_2304, k_4608, k_13824, nI_add, pk_mul, pk_sub, nI_clamp, q_in, nI_ltI, nI_leI, nI_eq, forall_eq, e_shl, e_bit, e_b0, e_b1, e_bn, e_andn, fa_or, fa_and, e_m1, e_nneg]
        repeat (first | refine And.intro (fun hh => absurd hh (by omega)) (fun _ => ?_) | refine And.intro (fun _ => ?_) (fun hh => absurd hh (by omega)) | refine And.intro (by omega) ?_)
        refine hag _ ⟨by rw [pk_un (by omega), pk_un (by omega)]; exact g1, fun j hj => ?_⟩
        by_cases e : j = i
        · subst e; exact ⟨by rw [pk_un (by omega), pk_us], pk_us⟩
        · rw [pk_un (by omega), pk_un (by omega), pk_un (by omega), pk_un (by omega)]; exact g2 j (by omega)
      · rintro again v' ⟨g1, g2⟩
        unfold wp_X11_setLetters_L29
        try simp (disch := omega) only [k_0, k_1, k_2, k_3, k_4, k_6, k_7, k_10, k_11, k_12, k_13, k_14, k_16, k_32, k_36, k_40, k_41, k_42, k_43, k_49, k_64, k_80, k_96, k_97, k_100, k_109, k_110, k_127, k_128, k_146, k_147, k_160, k_2304, k_4608, k_13824, nI_add, pk_mul, pk_sub, nI_clamp, q_in, nI_ltI, nI_leI, nI_eq, forall_eq, e_shl, e_bit, e_b0, e_b1, e_bn, e_andn, fa_or, fa_and, e_m1, e_nneg]
        repeat (first | refine And.intro (fun hh => absurd hh (by omega)) (fun _ => ?_) | refine And.intro (fun _ => ?_) (fun hh => absurd hh (by omega)) | refine And.intro (by omega) ?_)
        refine s_beginsStates (m := 1) (fun v2 c1 c2 c3 c4 => ?_)
        apply hQ
        refine ⟨m, fun _ => 0, fun _ => [], 1, fun q _ => q, 0, ⟨⟨hm2, hm, fun _ => Nat.two_pow_pos m, fun _ _ => by simp, fun _ => by simp⟩, fun w _ => ⟨by simp, fun x hx => absurd hx List.not_mem_nil⟩, by decide, by decide, fun q x hq _ => hq, by decide⟩, ⟨rfl, hf', fun w hw => ⟨hw' w hw, by simp, fun i hi => absurd hi (Nat.not_lt_zero _)⟩, rfl, rfl, fun q x hq hx => ha' q x (by omega) hx⟩, ⟨by rw [c4 0 (by decide)]; exact g1, fun j hj => by rw [c4 _ (by omega)]; exact (g2 j hj).1, fun w hw => ⟨by rw [c4 _ (by omega)]; exact (g2 w hw).2, by simp, fun i hi => absurd hi (Nat.not_lt_zero _)⟩, c1, c2, fun q x hq hx => c3 q x (by omega) hx, fun j hj => ?_⟩⟩
        have := c3 (j / 6) (j % 6) (by omega) (by omega)
        rw [show 110 + 6 * (j / 6) + j % 6 = 110 + j by omega] at this
        exact ⟨j / 6, by omega, this⟩
    · refine br_f h2 ?_
      apply hK
      intro Q hQ
      unfold wp_X11_setLetters
      refine s_inN (Or.inr (fa_of_nle h2)) ?_
      (first | refine br_t (by decide) ?_ | refine br_f (by decide) ?_ | refine br_t' (by decide) ?_ | refine br_f' (by decide) ?_)
      first | (apply hQ; done) | (apply hQ; exact hR0)
