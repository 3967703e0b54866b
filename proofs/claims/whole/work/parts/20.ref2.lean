/-! the reference: likeness, layers, storing -/
theorem s_areAlike {v gone one other : Nat → Int32} {fr : Nat → Nat} {a b : List Nat} (irr : ∀ a, ind fr a a = false) (hf : FV v fr) (ha : ∀ x ∈ a, x < 6) (hb : ∀ x ∈ b, x < 6) (hA : RW one a) (hB : RW other b) (h64 : a.length ≤ 64) (h64b : b.length ≤ 64) {K : Int32 → Int32 → (Nat → Int32) → (Nat → Int32) → Prop} (hK : ∀ l o g, K (bI (dvd (ind fr) a b == some [])) l o g) : wp_X11_areAlike (nI a.length) (nI b.length) v one other gone K := by
  unfold wp_X11_areAlike
  try simp (disch := omega) only [k_0, k_1, k_2, k_3, k_4, k_6, k_7, k_10, k_11, k_12, k_13, k_14, k_16, k_32, k_36, k_40, k_41, k_42, k_43, k_49, k_64, k_80, k_96, k_97, k_100, k_109, k_110, k_127, k_128, k_146, k_147, k_160, k_2304, k_4608, k_13824, nI_add, pk_mul, pk_sub, nI_clamp, q_in, nI_ltI, nI_leI, nI_eq, forall_eq, e_shl, e_bit, e_b0, e_b1, e_bn, e_andn, fa_or, fa_and, e_m1, e_nneg]
  refine ⟨fun q => ?_, fun q => s_divides irr hf ha hb hA hB h64 h64b (fun r o g e _ => ?_) (fun g e => ?_)⟩
  · have e : dvd (ind fr) a b ≠ some [] := fun e => by
      have := dvd_len a b [] e
      simp at this
      omega
    have h := hK (nI b.length) other gone
    rw [show (dvd (ind fr) a b == some []) = false from by simpa using e] at h
    exact h
  · have h1 := dvd_len a b r e
    have h2 : r = [] := List.length_eq_zero_iff.mp (by omega)
    subst h2
    have h := hK (nI 0) o g
    rw [e] at h
    exact br_f (by decide) h
  · have h := hK (nI b.length) other g
    rw [e] at h
    exact br_t (by decide) h
theorem hgS_cong {fr : Nat → Nat} {u : List Nat} {h h' : Nat → Nat} {i n : Nat} (e : ∀ p, p < n → h p = h' p) : hgS fr u h i n = hgS fr u h' i n := fld_cong (fun p s hp => by rw [e p hp])
theorem s_findLayers {v one hts : Nat → Int32} {fr : Nat → Nat} {u : List Nat} (sym : ∀ a b, ind fr a b = ind fr b a) (hf : FV v fr) (hu : ∀ x ∈ u, x < 6) (hR : RW one u) (h16 : u.length ≤ 16) {K : Int32 → (Nat → Int32) → Prop} (hK : ∀ h', (∀ i, i < u.length → h' i = nI (hN fr u u.length i)) → K (nI (layN (hN fr u u.length) u.length)) h') : wp_X11_findLayers (nI u.length) v one hts K := by
  have stab : ∀ n i, i < n → n ≤ u.length → hN fr u n i = hN fr u u.length i := by
    intro n i hi
    have : ∀ d, hN fr u (n + d) i = hN fr u n i := by
      intro d
      induction d with
      | zero => rfl
      | succ d ih => rw [← Nat.add_assoc, hN_s, if_neg (by omega), ih]
    intro hn
    have := this (u.length - n)
    rw [show n + (u.length - n) = u.length by omega] at this
    exact this.symm
  unfold wp_X11_findLayers
  refine for_X11_findLayers_L4 _ _ _ _ (u.length) (fun i m h => m = nI (layN (hN fr u u.length) i) ∧ ∀ j, j < i → h j = nI (hN fr u u.length j)) ?_ ?_ (0) _ _ _ rfl (Nat.zero_le _) (⟨rfl, fun j hj => absurd hj (Nat.not_lt_zero _)⟩)
  · rintro again i m h hi ⟨rfl, hh⟩ hag
    have ui := hu _ (getD_mem hi)
    unfold wp_X11_findLayers_L4
    try simp (disch := omega) only [k_0, k_1, k_2, k_3, k_4, k_6, k_7, k_10, k_11, k_12, k_13, k_14, k_16, k_32, k_36, k_40, k_41, k_42, k_43, k_49, k_64, k_80, k_96, k_97, k_100, k_109, k_110, k_127, k_128, k_146, k_147, k_160, k_2304, k_4608, k_13824, nI_add, pk_mul, pk_sub, nI_clamp, q_in, nI_ltI, nI_leI, nI_eq, forall_eq, e_shl, e_bit, e_b0, e_b1, e_bn, e_andn, fa_or, fa_and, e_m1, e_nneg]
    repeat (first | refine And.intro (fun hh => absurd hh (by omega)) (fun _ => ?_) | refine And.intro (fun _ => ?_) (fun hh => absurd hh (by omega)) | refine And.intro (by omega) ?_)
    refine for_X11_findLayers_L21 _ _ _ _ (i) (fun p h => (∀ j, j < i → h j = nI (hN fr u u.length j)) ∧ h i = nI (hgS fr u (hN fr u i) i p)) ?_ ?_ (0) _ _ rfl (Nat.zero_le _) (⟨fun j hj => by rw [pk_un (by omega)]; exact hh j hj, pk_us⟩)
    · rintro again2 p h2 hp ⟨h3, h4⟩ hag2
      have up := hu _ (getD_mem (u := u) (i := p) (by omega))
      have b1 := hgS_le fr u (hN fr u i) i p (fun p _ => hN_le fr u i p)
      have b2 := hN_le fr u i p
      unfold wp_X11_findLayers_L21
      try simp (disch := omega) only [k_0, k_1, k_2, k_3, k_4, k_6, k_7, k_10, k_11, k_12, k_13, k_14, k_16, k_32, k_36, k_40, k_41, k_42, k_43, k_49, k_64, k_80, k_96, k_97, k_100, k_109, k_110, k_127, k_128, k_146, k_147, k_160, k_2304, k_4608, k_13824, nI_add, pk_mul, pk_sub, nI_clamp, q_in, nI_ltI, nI_leI, nI_eq, forall_eq, e_shl, e_bit, e_b0, e_b1, e_bn, e_andn, fa_or, fa_and, e_m1, e_nneg]
      repeat (first | refine And.intro (fun hh => absurd hh (by omega)) (fun _ => ?_) | refine And.intro (fun _ => ?_) (fun hh => absurd hh (by omega)) | refine And.intro (by omega) ?_)
      rw [hR p (by omega), hR i hi]
      refine s_free hf up (by omega) ?_
      have hs := hgS_s fr u (hN fr u i) i p
      rw [sym] at hs
      have h5 : h2 p = nI (hN fr u i p) := by rw [h3 p hp, stab i p hp (by omega)]
      unfold wp_X11_findLayers_J65
      try simp (disch := omega) only [k_0, k_1, k_2, k_3, k_4, k_6, k_7, k_10, k_11, k_12, k_13, k_14, k_16, k_32, k_36, k_40, k_41, k_42, k_43, k_49, k_64, k_80, k_96, k_97, k_100, k_109, k_110, k_127, k_128, k_146, k_147, k_160, k_2304, k_4608, k_13824, nI_add, pk_mul, pk_sub, nI_clamp, q_in, nI_ltI, nI_leI, nI_eq, forall_eq, e_shl, e_bit, e_b0, e_b1, e_bn, e_andn, fa_or, fa_and, e_m1, e_nneg]
      rw [h4, h5]
      try simp (disch := omega) only [k_0, k_1, k_2, k_3, k_4, k_6, k_7, k_10, k_11, k_12, k_13, k_14, k_16, k_32, k_36, k_40, k_41, k_42, k_43, k_49, k_64, k_80, k_96, k_97, k_100, k_109, k_110, k_127, k_128, k_146, k_147, k_160, k_2304, k_4608, k_13824, nI_add, pk_mul, pk_sub, nI_clamp, q_in, nI_ltI, nI_leI, nI_eq, forall_eq, e_shl, e_bit, e_b0, e_b1, e_bn, e_andn, fa_or, fa_and, e_m1, e_nneg]
      have same : hgS fr u (hN fr u i) i (p + 1) = hgS fr u (hN fr u i) i p → again2 (nI (p + 1)) (upd h2 i (nI (hgS fr u (hN fr u i) i p))) := fun e => hag2 _ ⟨fun j hj => by rw [pk_un (by omega)]; exact h3 j hj, by rw [pk_us, e]⟩
      cases hb : ind fr (u.getD p 0) (u.getD i 0) with
      | true =>
        rw [hb, if_pos rfl] at hs
        refine br_f' (by decide) (br_t trivial ⟨by omega, by omega, same hs⟩)
      | false =>
        rw [hb, if_neg (by decide)] at hs
        refine br_t' (by decide) ⟨by omega, by omega, fun q => ?_, fun q => ?_⟩
        · rw [if_neg (by omega)] at hs
          exact br_t trivial ⟨by omega, by omega, same hs⟩
        · rw [if_pos (by omega)] at hs
          refine br_f (by decide) ⟨by omega, by omega, hag2 _ ⟨fun j hj => by rw [pk_un (by omega)]; exact h3 j hj, by rw [pk_us, hs]⟩⟩
    · rintro again2 h2 ⟨h3, h4⟩
      have b1 := layN_le _ (hN_le fr u u.length) i
      have b2 := hN_le fr u u.length i
      have e1 : hgS fr u (hN fr u i) i i = hN fr u u.length i := by
        rw [← stab (i + 1) i (by omega) (by omega), hN_s, if_pos rfl]
      have h6 : ∀ j, j < i + 1 → h2 j = nI (hN fr u u.length j) := by
        intro j hj
        by_cases e : j = i
        · subst e; rw [h4, e1]
        · exact h3 j (by omega)
      unfold wp_X11_findLayers_L21
      try simp (disch := omega) only [k_0, k_1, k_2, k_3, k_4, k_6, k_7, k_10, k_11, k_12, k_13, k_14, k_16, k_32, k_36, k_40, k_41, k_42, k_43, k_49, k_64, k_80, k_96, k_97, k_100, k_109, k_110, k_127, k_128, k_146, k_147, k_160, k_2304, k_4608, k_13824, nI_add, pk_mul, pk_sub, nI_clamp, q_in, nI_ltI, nI_leI, nI_eq, forall_eq, e_shl, e_bit, e_b0, e_b1, e_bn, e_andn, fa_or, fa_and, e_m1, e_nneg]
      repeat (first | refine And.intro (fun hh => absurd hh (by omega)) (fun _ => ?_) | refine And.intro (fun _ => ?_) (fun hh => absurd hh (by omega)) | refine And.intro (by omega) ?_)
      rw [h4, e1]
      try simp (disch := omega) only [k_0, k_1, k_2, k_3, k_4, k_6, k_7, k_10, k_11, k_12, k_13, k_14, k_16, k_32, k_36, k_40, k_41, k_42, k_43, k_49, k_64, k_80, k_96, k_97, k_100, k_109, k_110, k_127, k_128, k_146, k_147, k_160, k_2304, k_4608, k_13824, nI_add, pk_mul, pk_sub, nI_clamp, q_in, nI_ltI, nI_leI, nI_eq, forall_eq, e_shl, e_bit, e_b0, e_b1, e_bn, e_andn, fa_or, fa_and, e_m1, e_nneg]
      have hs := layN_s (hN fr u u.length) i
      refine ⟨fun q => ?_, fun q => ⟨by omega, ?_⟩⟩
      · rw [if_neg (by omega)] at hs
        exact hag _ _ ⟨by rw [hs], h6⟩
      · rw [if_pos (by omega)] at hs
        exact hag _ _ ⟨by rw [hs], h6⟩
  · rintro again m h ⟨rfl, hh⟩
    unfold wp_X11_findLayers_L4
    try simp (disch := omega) only [k_0, k_1, k_2, k_3, k_4, k_6, k_7, k_10, k_11, k_12, k_13, k_14, k_16, k_32, k_36, k_40, k_41, k_42, k_43, k_49, k_64, k_80, k_96, k_97, k_100, k_109, k_110, k_127, k_128, k_146, k_147, k_160, k_2304, k_4608, k_13824, nI_add, pk_mul, pk_sub, nI_clamp, q_in, nI_ltI, nI_leI, nI_eq, forall_eq, e_shl, e_bit, e_b0, e_b1, e_bn, e_andn, fa_or, fa_and, e_m1, e_nneg]
    repeat (first | refine And.intro (fun hh => absurd hh (by omega)) (fun _ => ?_) | refine And.intro (fun _ => ?_) (fun hh => absurd hh (by omega)) | refine And.intro (by omega) ?_)
    exact hK _ hh
theorem s_layerNow {one hts : Nat → Int32} {fr : Nat → Nat} {u : List Nat} (hu : ∀ x ∈ u, x < 6) (hR : RW one u) (h16 : u.length ≤ 16) (hh : ∀ i, i < u.length → hts i = nI (hN fr u u.length i)) {l : Nat} (hl : l < 2 ^ 31) {K : Int32 → Prop} (hK : K (nI (laySet (hN fr u u.length) u l u.length))) : wp_X11_layerNow (nI u.length) one hts (nI l) K := by
  unfold wp_X11_layerNow
  refine for_X11_layerNow_L4 _ _ _ _ _ (u.length) (fun i m => m = nI (laySet (hN fr u u.length) u l i)) ?_ ?_ (0) _ _ rfl (Nat.zero_le _) (rfl)
  · rintro again i m hi rfl hag
    have h2 := hN_le fr u u.length i
    have h3 := hu _ (getD_mem hi)
    unfold wp_X11_layerNow_L4
    try simp (disch := omega) only [k_0, k_1, k_2, k_3, k_4, k_6, k_7, k_10, k_11, k_12, k_13, k_14, k_16, k_32, k_36, k_40, k_41, k_42, k_43, k_49, k_64, k_80, k_96, k_97, k_100, k_109, k_110, k_127, k_128, k_146, k_147, k_160, k_2304, k_4608, k_13824, nI_add, pk_mul, pk_sub, nI_clamp, q_in, nI_ltI, nI_leI, nI_eq, forall_eq, e_shl, e_bit, e_b0, e_b1, e_bn, e_andn, fa_or, fa_and, e_m1, e_nneg]
    repeat (first | refine And.intro (fun hh => absurd hh (by omega)) (fun _ => ?_) | refine And.intro (fun _ => ?_) (fun hh => absurd hh (by omega)) | refine And.intro (by omega) ?_)
    rw [hh i hi, hR i hi]
    try simp (disch := omega) only [k_0, k_1, k_2, k_3, k_4, k_6, k_7, k_10, k_11, k_12, k_13, k_14, k_16, k_32, k_36, k_40, k_41, k_42, k_43, k_49, k_64, k_80, k_96, k_97, k_100, k_109, k_110, k_127, k_128, k_146, k_147, k_160, k_2304, k_4608, k_13824, nI_add, pk_mul, pk_sub, nI_clamp, q_in, nI_ltI, nI_leI, nI_eq, forall_eq, e_shl, e_bit, e_b0, e_b1, e_bn, e_andn, fa_or, fa_and, e_m1, e_nneg]
    rw [laySet_s] at hag
    refine ⟨fun q => ?_, fun q => ⟨by omega, ?_⟩⟩
    · rw [if_neg q] at hag; rw [Nat.or_zero]; exact hag _ rfl
    · rw [if_pos q] at hag; exact hag _ rfl
  · rintro again m rfl
    unfold wp_X11_layerNow_L4
    try simp (disch := omega) only [k_0, k_1, k_2, k_3, k_4, k_6, k_7, k_10, k_11, k_12, k_13, k_14, k_16, k_32, k_36, k_40, k_41, k_42, k_43, k_49, k_64, k_80, k_96, k_97, k_100, k_109, k_110, k_127, k_128, k_146, k_147, k_160, k_2304, k_4608, k_13824, nI_add, pk_mul, pk_sub, nI_clamp, q_in, nI_ltI, nI_leI, nI_eq, forall_eq, e_shl, e_bit, e_b0, e_b1, e_bn, e_andn, fa_or, fa_and, e_m1, e_nneg]
    repeat (first | refine And.intro (fun hh => absurd hh (by omega)) (fun _ => ?_) | refine And.intro (fun _ => ?_) (fun hh => absurd hh (by omega)) | refine And.intro (by omega) ?_)
    exact hK
/-- a row of the reference's state outside the words -/
theorem s_stores {v made : Nat → Int32} {u : List Nat} (hR : RW made u) (h16 : u.length ≤ 16) {w : Nat} (hw : w < 6) {K : Int32 → (Nat → Int32) → Prop} (hK : ∀ v', WV v' w u → (∀ j, j ≠ 7 + w → (j < 13 + 16 * w ∨ 13 + 16 * w + 16 ≤ j) → v' j = v j) → K (nI u.length) v') : wp_X11_stores (nI u.length) v made (nI w) K := by
  unfold wp_X11_stores
  try simp (disch := omega) only [k_0, k_1, k_2, k_3, k_4, k_6, k_7, k_10, k_11, k_12, k_13, k_14, k_16, k_32, k_36, k_40, k_41, k_42, k_43, k_49, k_64, k_80, k_96, k_97, k_100, k_109, k_110, k_127, k_128, k_146, k_147, k_160, k_2304, k_4608, k_13824, nI_add, pk_mul, pk_sub, nI_clamp, q_in, nI_ltI, nI_leI, nI_eq, forall_eq, e_shl, e_bit, e_b0, e_b1, e_bn, e_andn, fa_or, fa_and, e_m1, e_nneg]
  repeat (first | refine And.intro (fun hh => absurd hh (by omega)) (fun _ => ?_) | refine And.intro (fun _ => ?_) (fun hh => absurd hh (by omega)) | refine And.intro (by omega) ?_)
  refine for_X11_stores_L15 _ _ _ _ (u.length) (fun i v' => v' (7 + w) = nI u.length ∧ (∀ j, j < i → v' (13 + 16 * w + j) = nI (u.getD j 0)) ∧ (∀ j, j ≠ 7 + w → (j < 13 + 16 * w ∨ 13 + 16 * w + 16 ≤ j) → v' j = v j)) ?_ ?_ (0) _ _ rfl (Nat.zero_le _) (⟨pk_us, fun j hj => absurd hj (Nat.not_lt_zero _), fun j h1 _ => pk_un h1⟩)
  · rintro again i v' hi ⟨h1, h2, h3⟩ hag
    unfold wp_X11_stores_L15
    try simp (disch := omega) only [k_0, k_1, k_2, k_3, k_4, k_6, k_7, k_10, k_11, k_12, k_13, k_14, k_16, k_32, k_36, k_40, k_41, k_42, k_43, k_49, k_64, k_80, k_96, k_97, k_100, k_109, k_110, k_127, k_128, k_146, k_147, k_160, k_2304, k_4608, k_13824, nI_add, pk_mul, pk_sub, nI_clamp, q_in, nI_ltI, nI_leI, nI_eq, forall_eq, e_shl, e_bit, e_b0, e_b1, e_bn, e_andn, fa_or, fa_and, e_m1, e_nneg]
    repeat (first | refine And.intro (fun hh => absurd hh (by omega)) (fun _ => ?_) | refine And.intro (fun _ => ?_) (fun hh => absurd hh (by omega)) | refine And.intro (by omega) ?_)
    refine hag _ ⟨by rw [pk_un (by omega)]; exact h1, fun j hj => ?_, fun j h4 h5 => by rw [pk_un (by omega)]; exact h3 j h4 h5⟩
    by_cases e : j = i
    · subst e; rw [pk_us]; exact hR j hi
    · rw [pk_un (by omega)]; exact h2 j (by omega)
  · rintro again v' ⟨h1, h2, h3⟩
    unfold wp_X11_stores_L15
    try simp (disch := omega) only [k_0, k_1, k_2, k_3, k_4, k_6, k_7, k_10, k_11, k_12, k_13, k_14, k_16, k_32, k_36, k_40, k_41, k_42, k_43, k_49, k_64, k_80, k_96, k_97, k_100, k_109, k_110, k_127, k_128, k_146, k_147, k_160, k_2304, k_4608, k_13824, nI_add, pk_mul, pk_sub, nI_clamp, q_in, nI_ltI, nI_leI, nI_eq, forall_eq, e_shl, e_bit, e_b0, e_b1, e_bn, e_andn, fa_or, fa_and, e_m1, e_nneg]
    repeat (first | refine And.intro (fun hh => absurd hh (by omega)) (fun _ => ?_) | refine And.intro (fun _ => ?_) (fun hh => absurd hh (by omega)) | refine And.intro (by omega) ?_)
    exact hK _ ⟨h1, h16, h2⟩ h3
theorem dvd_app (f : Nat → Nat → Bool) : ∀ (a b w : List Nat), dvd f (a ++ b) w = match dvd f a w with
    | none => none
    | some r => dvd f b r
  | [], b, w => rfl
  | x :: a, b, w => by
    rw [List.cons_append, dvd, dvd]
    cases rmv f x w with
    | none => rfl
    | some r => exact dvd_app f a b r
