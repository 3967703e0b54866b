/-! starConnected, shortest -/
theorem FLT.of_ok {k : Nat} {tx : List Nat} (h : OKT k tx) : FLT k tx (-1) := Or.inr ⟨false, 0, h, Or.inr ⟨rfl, rfl, rfl⟩⟩
theorem s_faultOK {v txt : Nat → Int32} {tx : List Nat} {k : Nat} (hv0 : v 0 = nI k) (h1 : 1 ≤ k) (hk : k ≤ 6) (h80 : tx.length ≤ 80) (h128 : ∀ b ∈ tx, b < 128) (hb : RW txt tx) {K : Int32 → Prop} (hy : OKT k tx → K (-1)) (hn : ¬ OKT k tx → ∀ i, i ≤ 80 → K (nI i)) : wp_X11_fault (nI tx.length) v txt K := by
  refine s_faultR hv0 h1 hk h80 h128 hb (fun r hr => ?_)
  by_cases e : r = -1
  · subst e
    exact hy (hr.ok h80)
  · obtain ⟨i, hi, rfl⟩ := hr.no e
    exact hn (fun q => e (hr.one (FLT.of_ok q))) i (by omega)
theorem M_starConnected {A_now_alphabet_count : Int32} {A_now_alphabet_free : Nat → Int32} {A_now_words_size : Nat → Int32} {A_now_words_letters : Nat → Nat → Int32} {A_now_recogniser_states : Int32} {A_now_recogniser_accepting : Int32} {A_now_recogniser_arrows : Nat → Int32} {A_text_size : Int32} {A_text_bytes : Nat → Int32} {A_tree_size : Int32} {A_tree_top : Int32} {A_tree_depth : Int32} {A_tree_kind : Nat → Int32} {A_tree_left : Nat → Int32} {A_tree_right : Nat → Int32} {A_tree_least : Nat → Int32} {A_tree_letterSets : Nat → Int64} {A_tree_sums : Nat → Int32} {A_tree_products : Nat → Int32} {A_tree_items : Nat → Int32} {B_v : Nat → Int32} {B_length : Int32} {B_formLength : Int32} {B_waits : Int32} {B_text : Nat → Int32} {B_form : Nat → Int32} {B_waiting : Nat → Int32} {B_alphabets : Nat → Int64} {B_least : Nat → Int32} (hR : REL A_now_alphabet_count A_now_alphabet_free A_now_words_size A_now_words_letters A_now_recogniser_states A_now_recogniser_accepting A_now_recogniser_arrows B_v) (hT : TX A_text_size A_text_bytes B_length B_text) {K : Int32 → Int32 → Int32 → Int32 → (Nat → Int32) → (Nat → Int32) → (Nat → Int32) → (Nat → Int32) → (Nat → Int64) → (Nat → Int32) → (Nat → Int32) → (Nat → Int32) → Prop} (hK : ∀ (r : Int32) A_tree_size' A_tree_top' A_tree_depth' A_tree_kind' A_tree_left' A_tree_right' A_tree_least' A_tree_letterSets' A_tree_sums' A_tree_products' A_tree_items', (∀ Q : Int32 → Int32 → Int32 → (Nat → Int32) → (Nat → Int32) → (Nat → Int64) → (Nat → Int32) → Prop, (∀ B_formLength' B_waits' B_form' B_waiting' B_alphabets' B_least', Q r B_formLength' B_waits' B_form' B_waiting' B_alphabets' B_least') → wp_X11_starConnected B_length B_formLength B_waits B_v B_text B_form B_waiting B_alphabets B_least  Q) → K r A_tree_size' A_tree_top' A_tree_depth' A_tree_kind' A_tree_left' A_tree_right' A_tree_least' A_tree_letterSets' A_tree_sums' A_tree_products' A_tree_items') : wp_X10_starConnected A_now_alphabet_count A_now_alphabet_free A_text_size A_text_bytes A_tree_size A_tree_top A_tree_depth A_tree_kind A_tree_left A_tree_right A_tree_least A_tree_letterSets A_tree_sums A_tree_products A_tree_items  K := by
  have hR0 := hR
  obtain ⟨k, fr, W, n, ar, ac, hS, hA, hB⟩ := hR
  have hS0 := hS
  have hA0 := hA
  have hB0 := hB
  obtain ⟨hFR, hWS, hn1, hn6, har, hacl⟩ := hS
  obtain ⟨rfl, hF, hW, rfl, rfl, hAr⟩ := hA
  obtain ⟨hk0, hV, hWV, hn0, hac0, hArV, hAr6⟩ := hB
  have hk6 := hFR.2.1
  have hk2 := hFR.1
  have irr := hFR.irr
  have sym := hFR.sym
  obtain ⟨tx, h80, h128, rfl, rfl, hb, ht⟩ := hT
  unfold wp_X10_starConnected
  refine s_plant hk6 h80 h128 hb (fun hok d kd lf rt le sm pr it hN hle => ?_) (fun hok => ?_)
  · obtain ⟨ns0, l0, -, -, -, -, hst, hsg, hlen, -⟩ := nodes_ok hk6 h80 hok
    refine br_f' (by decide) (s_stars8 irr hF hk6 hsg hst (by omega) hN (fun ls => s_num _ ?_))
    apply hK
    intro Q hQ
    unfold wp_X11_starConnected
    refine s_faultOK hk0 (by omega) hk6 h80 h128 ht (fun _ => ?_) (fun q => absurd hok q)
    refine br_t (by decide) (s_weighs irr sym hk0 hV (by omega) hk6 h80 h128 ht hok (fun w fm wt al le _ => ?_))
    cases hc : cl (SF fr (nodes tx) (nodes tx).length) with
    | false => rw [hc] at hQ; exact br_t (by decide) (hQ _ _ _ _ _ _)
    | true => rw [hc] at hQ; exact br_f (by decide) (hQ _ _ _ _ _ _)
  · refine br_t' (by decide) ?_
    apply hK
    intro Q hQ
    unfold wp_X11_starConnected
    refine s_faultOK hk0 (by omega) hk6 h80 h128 ht (fun q => absurd q hok) (fun _ i hi => ?_)
    refine br_f ?_ (hQ _ _ _ _ _ _)
    rw [k_0, nI_ltI (by omega) (by omega)]
    omega
theorem M_shortest {A_now_alphabet_count : Int32} {A_now_alphabet_free : Nat → Int32} {A_now_words_size : Nat → Int32} {A_now_words_letters : Nat → Nat → Int32} {A_now_recogniser_states : Int32} {A_now_recogniser_accepting : Int32} {A_now_recogniser_arrows : Nat → Int32} {A_text_size : Int32} {A_text_bytes : Nat → Int32} {A_tree_size : Int32} {A_tree_top : Int32} {A_tree_depth : Int32} {A_tree_kind : Nat → Int32} {A_tree_left : Nat → Int32} {A_tree_right : Nat → Int32} {A_tree_least : Nat → Int32} {A_tree_sums : Nat → Int32} {A_tree_products : Nat → Int32} {A_tree_items : Nat → Int32} {B_v : Nat → Int32} {B_length : Int32} {B_formLength : Int32} {B_waits : Int32} {B_text : Nat → Int32} {B_form : Nat → Int32} {B_waiting : Nat → Int32} {B_alphabets : Nat → Int64} {B_least : Nat → Int32} (hR : REL A_now_alphabet_count A_now_alphabet_free A_now_words_size A_now_words_letters A_now_recogniser_states A_now_recogniser_accepting A_now_recogniser_arrows B_v) (hT : TX A_text_size A_text_bytes B_length B_text) {K : Int32 → Int32 → Int32 → Int32 → (Nat → Int32) → (Nat → Int32) → (Nat → Int32) → (Nat → Int32) → (Nat → Int32) → (Nat → Int32) → (Nat → Int32) → Prop} (hK : ∀ (r : Int32) A_tree_size' A_tree_top' A_tree_depth' A_tree_kind' A_tree_left' A_tree_right' A_tree_least' A_tree_sums' A_tree_products' A_tree_items', (∀ Q : Int32 → Int32 → Int32 → (Nat → Int32) → (Nat → Int32) → (Nat → Int64) → (Nat → Int32) → Prop, (∀ B_formLength' B_waits' B_form' B_waiting' B_alphabets' B_least', Q r B_formLength' B_waits' B_form' B_waiting' B_alphabets' B_least') → wp_X11_shortest B_length B_formLength B_waits B_v B_text B_form B_waiting B_alphabets B_least  Q) → K r A_tree_size' A_tree_top' A_tree_depth' A_tree_kind' A_tree_left' A_tree_right' A_tree_least' A_tree_sums' A_tree_products' A_tree_items') : wp_X10_shortest A_now_alphabet_count A_text_size A_text_bytes A_tree_size A_tree_top A_tree_depth A_tree_kind A_tree_left A_tree_right A_tree_least A_tree_sums A_tree_products A_tree_items  K := by
  have hR0 := hR
  obtain ⟨k, fr, W, n, ar, ac, hS, hA, hB⟩ := hR
  have hS0 := hS
  have hA0 := hA
  have hB0 := hB
  obtain ⟨hFR, hWS, hn1, hn6, har, hacl⟩ := hS
  obtain ⟨rfl, hF, hW, rfl, rfl, hAr⟩ := hA
  obtain ⟨hk0, hV, hWV, hn0, hac0, hArV, hAr6⟩ := hB
  have hk6 := hFR.2.1
  have hk2 := hFR.1
  have irr := hFR.irr
  have sym := hFR.sym
  obtain ⟨tx, h80, h128, rfl, rfl, hb, ht⟩ := hT
  unfold wp_X10_shortest
  refine s_plant hk6 h80 h128 hb (fun hok d kd lf rt le sm pr it hN hle => ?_) (fun hok => ?_)
  · obtain ⟨ns0, l0, -, -, -, -, hst, hsg, hlen, -⟩ := nodes_ok hk6 h80 hok
    have tl : topN tx < (nodes tx).length := stk_lt hst _ List.mem_cons_self
    refine br_f' (by decide) ?_
    unfold wp_X8_leastLength
    refine s_leastOf (by omega) tl (hle _ tl) ?_
    apply hK
    intro Q hQ
    unfold wp_X11_shortest
    refine s_faultOK hk0 (by omega) hk6 h80 h128 ht (fun _ => ?_) (fun q => absurd hok q)
    refine br_t (by decide) (s_weighs irr sym hk0 hV (by omega) hk6 h80 h128 ht hok (fun w fm wt al le hle0 => ?_))
    refine ⟨(q_in (n := 0) (by decide)).mpr (by decide), ?_⟩
    rw [show (0 : Int32).toNatClampNeg = 0 from rfl, hle0]
    exact hQ _ _ _ _ _ _
  · refine br_t' (by decide) ?_
    apply hK
    intro Q hQ
    unfold wp_X11_shortest
    refine s_faultOK hk0 (by omega) hk6 h80 h128 ht (fun q => absurd q hok) (fun _ i hi => ?_)
    refine br_f ?_ (hQ _ _ _ _ _ _)
    rw [k_0, nI_ltI (by omega) (by omega)]
    omega
