/-! sets of spots -/
def RQ (arr : Nat → Int64) (b q : Nat) : Bool := bt (arr (2 * b + q / 64)) (q % 64)
def RWS (n m : Nat) : Prop := Int32.ofNat n / 2 = nI m ∧ 2 * m ≤ n ∧ n ≤ 10000
theorem rws320 : RWS 320 160 := ⟨by decide, by decide, by decide⟩
theorem rws160 : RWS 160 80 := ⟨by decide, by decide, by decide⟩
theorem rws12 : RWS 12 6 := ⟨by decide, by decide, by decide⟩
theorem rws2 : RWS 2 1 := ⟨by decide, by decide, by decide⟩
theorem rws4608 : RWS 4608 2304 := ⟨by decide, by decide, by decide⟩
theorem s_hasRow {n m b : Nat} (h : RWS n m) (hb : b < m) {K : Int32 → Prop} (hK : K 1) : wp_X2_hasRow n (nI b) K := by
  obtain ⟨h1, h2, h3⟩ := h
  unfold wp_X2_hasRow
  rw [h1, k_0]
  refine br_f (by rw [nI_ltI (by omega) (by omega)]; omega) (br_f (by rw [nI_leI (by omega) (by omega)]; omega) hK)
theorem s_contains {n m b q : Nat} (h : RWS n m) (hb : b < m) (hq : q < 128) {arr : Nat → Int64} {K : Int32 → Prop} (hK : K (bI (RQ arr b q))) : wp_X2_contains n arr (nI b) (nI q) K := by
  have h' := h
  obtain ⟨h1, h2, h3⟩ := h'
  have ⟨d1, d2⟩ := e_d64 q (by omega)
  unfold wp_X2_contains
  refine s_hasRow h hb (br_f (by decide) ?_)
  rw [k_64, d1, d2]
  rw [k_2, pk_mul, nI_add, nI_clamp (by omega), bt_readU (by omega)]
  refine br_f (by rw [k_0, nI_ltI (by omega) (by omega)]; omega) (br_f (by rw [k_128, nI_leI (by omega) (by omega)]; omega) ⟨(q_in (by omega)).mpr (by omega), ?_⟩)
  simp only [lgc, l_b0]
  unfold RQ at hK
  cases hb : bt (arr (2 * b + q / 64)) (q % 64) with
  | false => rw [hb] at hK; exact br_t rfl hK
  | true => rw [hb] at hK; exact br_f (by decide) hK
theorem s_insert {n m b q : Nat} (h : RWS n m) (hb : b < m) (hq : q < 128) {arr : Nat → Int64} {K : (Nat → Int64) → Prop} (hK : ∀ arr', (∀ a r, r < 128 → RQ arr' a r = (RQ arr a r || decide (a = b ∧ r = q))) → K arr') : wp_X2_insert n arr (nI b) (nI q) K := by
  have h' := h
  obtain ⟨h1, h2, h3⟩ := h'
  have ⟨d1, d2⟩ := e_d64 q (by omega)
  unfold wp_X2_insert
  refine s_hasRow h hb (br_f (by decide) ?_)
  rw [k_64, d1, d2]
  rw [k_2, pk_mul, nI_add, nI_clamp (by omega)]
  refine br_f (by rw [k_0, nI_ltI (by omega) (by omega)]; omega) (br_f (by rw [k_128, nI_leI (by omega) (by omega)]; omega) ⟨(q_in (by omega)).mpr (by omega), (q_in (by omega)).mpr (by omega), hK _ (fun a r hr => ?_)⟩)
  unfold RQ
  by_cases e : 2 * a + r / 64 = 2 * b + q / 64
  · rw [e, pk_uLs, bt_or, bt_one (by omega)]
    congr 1
    apply decide_eq_decide.mpr
    omega
  · rw [pk_uLn e]
    have : ¬ (a = b ∧ r = q) := by
      rintro ⟨rfl, rfl⟩
      exact e rfl
    rw [decide_eq_false this, Bool.or_false]
def INC (arr' arr : Nat → Int64) (b : Nat) (f : Nat → Bool) : Prop := (∀ q, q < 128 → RQ arr' b q = (RQ arr b q || f q)) ∧ (∀ a q, a ≠ b → q < 128 → RQ arr' a q = RQ arr a q)
theorem INC_of {arr' arr src : Nat → Int64} {b c : Nat} (h : ∀ j, arr' j = if 2 * b ≤ j ∧ j < 2 * b + 2 then arr j ||| src (2 * c + (j - 2 * b)) else arr j) : INC arr' arr b (fun q => RQ src c q) := by
  constructor
  · intro q hq
    show bt (arr' (2 * b + q / 64)) (q % 64) = (bt (arr (2 * b + q / 64)) (q % 64) || bt (src (2 * c + q / 64)) (q % 64))
    rw [h, if_pos ⟨by omega, by omega⟩, bt_or, show 2 * c + (2 * b + q / 64 - 2 * b) = 2 * c + q / 64 by omega]
  · intro a q ha hq
    unfold RQ
    rw [h, if_neg (by omega)]
theorem s_include {n m n' m' b c : Nat} (h : RWS n m) (h' : RWS n' m') (hb : b < m) (hc : c < m') {arr src : Nat → Int64} {K : (Nat → Int64) → Prop} (hK : ∀ arr', INC arr' arr b (fun q => RQ src c q) → K arr') : wp_X2_include n n' arr src (nI b) (nI c) K := by
  have g := h
  have g' := h'
  obtain ⟨h1, h2, h3⟩ := g
  obtain ⟨h1', h2', h3'⟩ := g'
  unfold wp_X2_include
  refine s_hasRow h hb (br_f (by decide) (s_hasRow h' hc (br_f (by decide) ?_)))
  refine for_X2_include_L19 _ _ _ _ _ _ (2) (fun i p => ∀ j, p j = if 2 * b ≤ j ∧ j < 2 * b + i then arr j ||| src (2 * c + (j - 2 * b)) else arr j) ?_ ?_ (0) _ _ rfl (Nat.zero_le _) (fun j => by rw [if_neg (by omega)])
  · intro again i p hi hp hag
    unfold wp_X2_include_L19
    try simp (disch := omega) only [k_0, k_1, k_2, k_3, k_4, k_6, k_7, k_10, k_11, k_12, k_13, k_14, k_16, k_32, k_36, k_40, k_41, k_42, k_43, k_49, k_64, k_80, k_96, k_97, k_100, k_109, k_110, k_127, k_128, k_146, k_147, k_160, k_2304, k_4608, k_13824, nI_add, pk_mul, pk_sub, nI_clamp, q_in, nI_ltI, nI_leI, nI_eq, forall_eq, e_shl, e_bit, e_b0, e_b1, e_bn, e_andn, fa_or, fa_and, e_m1, e_nneg]
    repeat (first | refine And.intro (fun hh => absurd hh (by omega)) (fun _ => ?_) | refine And.intro (fun _ => ?_) (fun hh => absurd hh (by omega)) | refine And.intro (by omega) ?_)
    refine hag _ (fun j => ?_)
    by_cases e : j = 2 * b + i
    · subst e
      rw [pk_uLs, hp, if_neg (by omega), if_pos (by omega), show 2 * b + i - 2 * b = i by omega]
    · rw [pk_uLn e, hp]
      by_cases q : 2 * b ≤ j ∧ j < 2 * b + i
      · rw [if_pos q, if_pos (by omega)]
      · rw [if_neg q, if_neg (by omega)]
  · intro again p hp
    unfold wp_X2_include_L19
    try simp (disch := omega) only [k_0, k_1, k_2, k_3, k_4, k_6, k_7, k_10, k_11, k_12, k_13, k_14, k_16, k_32, k_36, k_40, k_41, k_42, k_43, k_49, k_64, k_80, k_96, k_97, k_100, k_109, k_110, k_127, k_128, k_146, k_147, k_160, k_2304, k_4608, k_13824, nI_add, pk_mul, pk_sub, nI_clamp, q_in, nI_ltI, nI_leI, nI_eq, forall_eq, e_shl, e_bit, e_b0, e_b1, e_bn, e_andn, fa_or, fa_and, e_m1, e_nneg]
    repeat (first | refine And.intro (fun hh => absurd hh (by omega)) (fun _ => ?_) | refine And.intro (fun _ => ?_) (fun hh => absurd hh (by omega)) | refine And.intro (by omega) ?_)
    exact hK _ (INC_of hp)
theorem s_includeS {n m b c : Nat} (h : RWS n m) (hb : b < m) (hc : c < m) {arr : Nat → Int64} {K : (Nat → Int64) → Prop} (hK : ∀ arr', INC arr' arr b (fun q => RQ arr c q) → K arr') : wp_X2_include_same n arr (nI b) (nI c) K := by
  have g := h
  obtain ⟨h1, h2, h3⟩ := g
  unfold wp_X2_include_same
  refine s_hasRow h hb (br_f (by decide) (s_hasRow h hc (br_f (by decide) ?_)))
  refine for_X2_include_same_L19 _ _ _ _ (2) (fun i p => ∀ j, p j = if 2 * b ≤ j ∧ j < 2 * b + i then arr j ||| arr (2 * c + (j - 2 * b)) else arr j) ?_ ?_ (0) _ _ rfl (Nat.zero_le _) (fun j => by rw [if_neg (by omega)])
  · intro again i p hi hp hag
    unfold wp_X2_include_same_L19
    try simp (disch := omega) only [k_0, k_1, k_2, k_3, k_4, k_6, k_7, k_10, k_11, k_12, k_13, k_14, k_16, k_32, k_36, k_40, k_41, k_42, k_43, k_49, k_64, k_80, k_96, k_97, k_100, k_109, k_110, k_127, k_128, k_146, k_147, k_160, k_2304, k_4608, k_13824, nI_add, pk_mul, pk_sub, nI_clamp, q_in, nI_ltI, nI_leI, nI_eq, forall_eq, e_shl, e_bit, e_b0, e_b1, e_bn, e_andn, fa_or, fa_and, e_m1, e_nneg]
    repeat (first | refine And.intro (fun hh => absurd hh (by omega)) (fun _ => ?_) | refine And.intro (fun _ => ?_) (fun hh => absurd hh (by omega)) | refine And.intro (by omega) ?_)
    refine hag _ (fun j => ?_)
    have pc : p (2 * c + i) = arr (2 * c + i) := by rw [hp, if_neg (by omega)]
    by_cases e : j = 2 * b + i
    · subst e
      rw [pk_uLs, pc, hp, if_neg (by omega), if_pos (by omega), show 2 * b + i - 2 * b = i by omega]
    · rw [pk_uLn e, hp]
      by_cases q : 2 * b ≤ j ∧ j < 2 * b + i
      · rw [if_pos q, if_pos (by omega)]
      · rw [if_neg q, if_neg (by omega)]
  · intro again p hp
    unfold wp_X2_include_same_L19
    try simp (disch := omega) only [k_0, k_1, k_2, k_3, k_4, k_6, k_7, k_10, k_11, k_12, k_13, k_14, k_16, k_32, k_36, k_40, k_41, k_42, k_43, k_49, k_64, k_80, k_96, k_97, k_100, k_109, k_110, k_127, k_128, k_146, k_147, k_160, k_2304, k_4608, k_13824, nI_add, pk_mul, pk_sub, nI_clamp, q_in, nI_ltI, nI_leI, nI_eq, forall_eq, e_shl, e_bit, e_b0, e_b1, e_bn, e_andn, fa_or, fa_and, e_m1, e_nneg]
    repeat (first | refine And.intro (fun hh => absurd hh (by omega)) (fun _ => ?_) | refine And.intro (fun _ => ?_) (fun hh => absurd hh (by omega)) | refine And.intro (by omega) ?_)
    exact hK _ (INC_of hp)
theorem and_0 {x y : Int64} : x &&& y = 0 ↔ ∀ i, i < 64 → ¬ (bt x i = true ∧ bt y i = true) := by
  constructor
  · intro h i hi ⟨a, b⟩
    have : bt (x &&& y) i = true := by rw [bt_and, a, b]; rfl
    rw [h, bt_0] at this
    cases this
  · intro h
    apply bt_ext
    intro i hi
    rw [bt_and, bt_0]
    have := h i hi
    cases hx : bt x i with
    | false => rfl
    | true =>
      cases hy : bt y i with
      | false => rfl
      | true => exact absurd ⟨hx, hy⟩ this
theorem s_shares {n m n' m' b c : Nat} (h : RWS n m) (h' : RWS n' m') (hb : b < m) (hc : c < m') {arr src : Nat → Int64} {K : Int32 → Prop} (hK : K (bI (cl (∃ q, q < 128 ∧ RQ arr b q = true ∧ RQ src c q = true)))) : wp_X2_shares n n' arr src (nI b) (nI c) K := by
  have g := h
  have g' := h'
  obtain ⟨h1, h2, h3⟩ := g
  obtain ⟨h1', h2', h3'⟩ := g'
  unfold wp_X2_shares
  refine s_hasRow h hb (br_f (by decide) (s_hasRow h' hc (br_f' (by decide) ?_)))
  refine for_X2_shares_L24 _ _ _ _ _ _ _ (2) (fun i x => x = bI (cl (∃ q, q < 64 * i ∧ RQ arr b q = true ∧ RQ src c q = true))) ?_ ?_ (0) _ _ rfl (Nat.zero_le _) (?_)
  · rintro again i x hi rfl hag
    unfold wp_X2_shares_L24
    try simp (disch := omega) only [k_0, k_1, k_2, k_3, k_4, k_6, k_7, k_10, k_11, k_12, k_13, k_14, k_16, k_32, k_36, k_40, k_41, k_42, k_43, k_49, k_64, k_80, k_96, k_97, k_100, k_109, k_110, k_127, k_128, k_146, k_147, k_160, k_2304, k_4608, k_13824, nI_add, pk_mul, pk_sub, nI_clamp, q_in, nI_ltI, nI_leI, nI_eq, forall_eq, e_shl, e_bit, e_b0, e_b1, e_bn, e_andn, fa_or, fa_and, e_m1, e_nneg]
    repeat (first | refine And.intro (fun hh => absurd hh (by omega)) (fun _ => ?_) | refine And.intro (fun _ => ?_) (fun hh => absurd hh (by omega)) | refine And.intro (by omega) ?_)
    simp only [lgc, lgc', and_0]
    have bit : ∀ q, q / 64 = i → (RQ arr b q = bt (arr (2 * b + i)) (q % 64) ∧ RQ src c q = bt (src (2 * c + i)) (q % 64)) := fun q hq => by unfold RQ; rw [hq]; exact ⟨rfl, rfl⟩
    refine ⟨fun w => hag _ ?_, fun w => hag _ ?_⟩
    · have e : cl (∃ q, q < 64 * (i + 1) ∧ RQ arr b q = true ∧ RQ src c q = true) = cl (∃ q, q < 64 * i ∧ RQ arr b q = true ∧ RQ src c q = true) := cl_congr ⟨fun ⟨q, a1, a2, a3⟩ => by
          by_cases z : q < 64 * i
          · exact ⟨q, z, a2, a3⟩
          · have hq : q / 64 = i := by omega
            have hb := bit q hq
            rw [hb.1] at a2
            rw [hb.2] at a3
            exact absurd ⟨a2, a3⟩ (w (q % 64) (by omega)), fun ⟨q, a1, a2⟩ => ⟨q, by omega, a2⟩⟩
      rw [e]
      cases cl (∃ q, q < 64 * i ∧ RQ arr b q = true ∧ RQ src c q = true) <;> decide
    · have e : cl (∃ q, q < 64 * (i + 1) ∧ RQ arr b q = true ∧ RQ src c q = true) = true := by
        apply cl_t
        apply Classical.byContradiction
        intro no
        refine w (fun r hr ⟨a1, a2⟩ => no ⟨64 * i + r, by omega, ?_, ?_⟩)
        · rw [(bit (64 * i + r) (by omega)).1, show (64 * i + r) % 64 = r by omega]; exact a1
        · rw [(bit (64 * i + r) (by omega)).2, show (64 * i + r) % 64 = r by omega]; exact a2
      rw [e]
      cases cl (∃ q, q < 64 * i ∧ RQ arr b q = true ∧ RQ src c q = true) <;> decide
  · rintro again x rfl
    unfold wp_X2_shares_L24
    try simp (disch := omega) only [k_0, k_1, k_2, k_3, k_4, k_6, k_7, k_10, k_11, k_12, k_13, k_14, k_16, k_32, k_36, k_40, k_41, k_42, k_43, k_49, k_64, k_80, k_96, k_97, k_100, k_109, k_110, k_127, k_128, k_146, k_147, k_160, k_2304, k_4608, k_13824, nI_add, pk_mul, pk_sub, nI_clamp, q_in, nI_ltI, nI_leI, nI_eq, forall_eq, e_shl, e_bit, e_b0, e_b1, e_bn, e_andn, fa_or, fa_and, e_m1, e_nneg]
    repeat (first | refine And.intro (fun hh => absurd hh (by omega)) (fun _ => ?_) | refine And.intro (fun _ => ?_) (fun hh => absurd hh (by omega)) | refine And.intro (by omega) ?_)
    refine ⟨?_, hK⟩
    cases cl (∃ q, q < 64 * 2 ∧ RQ arr b q = true ∧ RQ src c q = true) with
    | false => exact Or.inl (by decide)
    | true => exact Or.inr (by decide)
  · rw [cl_ff (fun ⟨q, a, _⟩ => absurd a (by omega))]
    rfl
