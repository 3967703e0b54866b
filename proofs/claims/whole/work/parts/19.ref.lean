/-! the reference: letters, rows, places -/
theorem vb_0 : vp_nar .boolean 0 = 0 := by decide
theorem vb_1 : vp_nar .boolean 1 = 1 := by decide
theorem vb_b (b : Bool) : vp_nar .boolean (bI b) = bI b := by cases b <;> decide
theorem bI_01 (b : Bool) : bI b = 0 ∨ bI b = 1 := by cases b <;> decide
theorem gt_of_ge {n : Nat} {x : Int32} (hn : n + 1 < 2 ^ 31) (h : nI (n + 1) ≤ x) : nI n < x := by
  rw [fa_le, nI_toInt hn] at h
  rw [fa_lt, nI_toInt (by omega)]
  omega
theorem s_in {lo j hi : Nat} (h1 : lo ≤ j) (h2 : j ≤ hi) (h3 : hi < 2 ^ 31) {K : Int32 → Prop} (hK : K 1) : wp_X11_in (nI j) (nI lo) (nI hi) K := by
  unfold wp_X11_in
  try simp (disch := omega) only [k_0, k_1, k_2, k_3, k_4, k_6, k_7, k_10, k_11, k_12, k_13, k_14, k_16, k_32, k_36, k_40, k_41, k_42, k_43, k_49, k_64, k_80, k_96, k_97, k_100, k_109, k_110, k_127, k_128, k_146, k_147, k_160, k_2304, k_4608, k_13824, nI_add, pk_mul, pk_sub, nI_clamp, q_in, nI_ltI, nI_leI, nI_eq, forall_eq, e_shl, e_bit, e_b0, e_b1, e_bn, e_andn, fa_or, fa_and, e_m1, e_nneg]
  repeat (first | refine And.intro (fun hh => absurd hh (by omega)) (fun _ => ?_) | refine And.intro (fun _ => ?_) (fun hh => absurd hh (by omega)) | refine And.intro (by omega) ?_)
  exact hK
theorem s_inN {x lo hi : Int32} (h : x < lo ∨ hi < x) {K : Int32 → Prop} (hK : K 0) : wp_X11_in x lo hi K := by
  unfold wp_X11_in
  refine ⟨fun _ => hK, fun h0 => ⟨fun _ => hK, fun h1 => ?_⟩⟩
  rcases h with q | q
  · exact absurd q h0
  · exact absurd q h1
theorem s_isWord {w : Nat} (h : w < 6) {K : Int32 → Prop} (hK : K 1) : wp_X11_isWord (nI w) K := s_in (lo := 0) (hi := 5) (Nat.zero_le _) (by omega) (by decide) ⟨Or.inr rfl, hK⟩
theorem s_isWordN {x : Int32} (h : ¬ ∃ w, w < 6 ∧ x = nI w) {K : Int32 → Prop} (hK : K 0) : wp_X11_isWord x K := s_inN (by
  rcases in_not (by decide) h with q | q
  · exact Or.inl q
  · exact Or.inr (gt_of_ge (n := 5) (by decide) q)) ⟨Or.inl rfl, hK⟩
theorem s_isLetter {v : Nat → Int32} {k : Nat} (hv : v 0 = nI k) (hk : k ≤ 6) {j : Nat} (h : j < k) {K : Int32 → Prop} (hK : K 1) : wp_X11_isLetter v (nI j) K := by
  unfold wp_X11_isLetter
  try simp (disch := omega) only [k_0, k_1, k_2, k_3, k_4, k_6, k_7, k_10, k_11, k_12, k_13, k_14, k_16, k_32, k_36, k_40, k_41, k_42, k_43, k_49, k_64, k_80, k_96, k_97, k_100, k_109, k_110, k_127, k_128, k_146, k_147, k_160, k_2304, k_4608, k_13824, nI_add, pk_mul, pk_sub, nI_clamp, q_in, nI_ltI, nI_leI, nI_eq, forall_eq, e_shl, e_bit, e_b0, e_b1, e_bn, e_andn, fa_or, fa_and, e_m1, e_nneg]
  refine ⟨by decide, ?_⟩
  rw [hv]
  try simp (disch := omega) only [k_0, k_1, k_2, k_3, k_4, k_6, k_7, k_10, k_11, k_12, k_13, k_14, k_16, k_32, k_36, k_40, k_41, k_42, k_43, k_49, k_64, k_80, k_96, k_97, k_100, k_109, k_110, k_127, k_128, k_146, k_147, k_160, k_2304, k_4608, k_13824, nI_add, pk_mul, pk_sub, nI_clamp, q_in, nI_ltI, nI_leI, nI_eq, forall_eq, e_shl, e_bit, e_b0, e_b1, e_bn, e_andn, fa_or, fa_and, e_m1, e_nneg]
  exact s_in (Nat.zero_le _) (by omega) (by omega) ⟨Or.inr rfl, hK⟩
theorem s_isLetterN {v : Nat → Int32} {k : Nat} (hv : v 0 = nI k) (h1 : 1 ≤ k) (hk : k ≤ 6) {x : Int32} (h : ¬ ∃ j, j < k ∧ x = nI j) {K : Int32 → Prop} (hK : K 0) : wp_X11_isLetter v x K := by
  unfold wp_X11_isLetter
  try simp (disch := omega) only [k_0, k_1, k_2, k_3, k_4, k_6, k_7, k_10, k_11, k_12, k_13, k_14, k_16, k_32, k_36, k_40, k_41, k_42, k_43, k_49, k_64, k_80, k_96, k_97, k_100, k_109, k_110, k_127, k_128, k_146, k_147, k_160, k_2304, k_4608, k_13824, nI_add, pk_mul, pk_sub, nI_clamp, q_in, nI_ltI, nI_leI, nI_eq, forall_eq, e_shl, e_bit, e_b0, e_b1, e_bn, e_andn, fa_or, fa_and, e_m1, e_nneg]
  refine ⟨by decide, ?_⟩
  rw [hv]
  try simp (disch := omega) only [k_0, k_1, k_2, k_3, k_4, k_6, k_7, k_10, k_11, k_12, k_13, k_14, k_16, k_32, k_36, k_40, k_41, k_42, k_43, k_49, k_64, k_80, k_96, k_97, k_100, k_109, k_110, k_127, k_128, k_146, k_147, k_160, k_2304, k_4608, k_13824, nI_add, pk_mul, pk_sub, nI_clamp, q_in, nI_ltI, nI_leI, nI_eq, forall_eq, e_shl, e_bit, e_b0, e_b1, e_bn, e_andn, fa_or, fa_and, e_m1, e_nneg]
  refine s_inN ?_ ⟨Or.inl rfl, hK⟩
  rcases in_not (by omega) h with q | q
  · exact Or.inl q
  · exact Or.inr (gt_of_ge (by omega) (by rw [show k - 1 + 1 = k by omega]; exact q))
theorem s_isState {v : Nat → Int32} {k : Nat} (hv : v 109 = nI k) (hk : k ≤ 6) {j : Nat} (h : j < k) {K : Int32 → Prop} (hK : K 1) : wp_X11_isState v (nI j) K := by
  unfold wp_X11_isState
  try simp (disch := omega) only [k_0, k_1, k_2, k_3, k_4, k_6, k_7, k_10, k_11, k_12, k_13, k_14, k_16, k_32, k_36, k_40, k_41, k_42, k_43, k_49, k_64, k_80, k_96, k_97, k_100, k_109, k_110, k_127, k_128, k_146, k_147, k_160, k_2304, k_4608, k_13824, nI_add, pk_mul, pk_sub, nI_clamp, q_in, nI_ltI, nI_leI, nI_eq, forall_eq, e_shl, e_bit, e_b0, e_b1, e_bn, e_andn, fa_or, fa_and, e_m1, e_nneg]
  refine ⟨by decide, ?_⟩
  rw [hv]
  try simp (disch := omega) only [k_0, k_1, k_2, k_3, k_4, k_6, k_7, k_10, k_11, k_12, k_13, k_14, k_16, k_32, k_36, k_40, k_41, k_42, k_43, k_49, k_64, k_80, k_96, k_97, k_100, k_109, k_110, k_127, k_128, k_146, k_147, k_160, k_2304, k_4608, k_13824, nI_add, pk_mul, pk_sub, nI_clamp, q_in, nI_ltI, nI_leI, nI_eq, forall_eq, e_shl, e_bit, e_b0, e_b1, e_bn, e_andn, fa_or, fa_and, e_m1, e_nneg]
  exact s_in (Nat.zero_le _) (by omega) (by omega) ⟨Or.inr rfl, hK⟩
theorem s_isStateN {v : Nat → Int32} {k : Nat} (hv : v 109 = nI k) (h1 : 1 ≤ k) (hk : k ≤ 6) {x : Int32} (h : ¬ ∃ j, j < k ∧ x = nI j) {K : Int32 → Prop} (hK : K 0) : wp_X11_isState v x K := by
  unfold wp_X11_isState
  try simp (disch := omega) only [k_0, k_1, k_2, k_3, k_4, k_6, k_7, k_10, k_11, k_12, k_13, k_14, k_16, k_32, k_36, k_40, k_41, k_42, k_43, k_49, k_64, k_80, k_96, k_97, k_100, k_109, k_110, k_127, k_128, k_146, k_147, k_160, k_2304, k_4608, k_13824, nI_add, pk_mul, pk_sub, nI_clamp, q_in, nI_ltI, nI_leI, nI_eq, forall_eq, e_shl, e_bit, e_b0, e_b1, e_bn, e_andn, fa_or, fa_and, e_m1, e_nneg]
  refine ⟨by decide, ?_⟩
  rw [hv]
  try simp (disch := omega) only [k_0, k_1, k_2, k_3, k_4, k_6, k_7, k_10, k_11, k_12, k_13, k_14, k_16, k_32, k_36, k_40, k_41, k_42, k_43, k_49, k_64, k_80, k_96, k_97, k_100, k_109, k_110, k_127, k_128, k_146, k_147, k_160, k_2304, k_4608, k_13824, nI_add, pk_mul, pk_sub, nI_clamp, q_in, nI_ltI, nI_leI, nI_eq, forall_eq, e_shl, e_bit, e_b0, e_b1, e_bn, e_andn, fa_or, fa_and, e_m1, e_nneg]
  refine s_inN ?_ ⟨Or.inl rfl, hK⟩
  rcases in_not (by omega) h with q | q
  · exact Or.inl q
  · exact Or.inr (gt_of_ge (by omega) (by rw [show k - 1 + 1 = k by omega]; exact q))
def FV (v : Nat → Int32) (fr : Nat → Nat) : Prop := ∀ j, j < 6 → v (1 + j) = nI (fr j)
theorem s_free {v : Nat → Int32} {fr : Nat → Nat} (hf : FV v fr) {a b : Nat} (ha : a < 6) (hb : b < 32) {K : Int32 → Prop} (hK : K (bI (ind fr a b))) : wp_X11_areFree v (nI a) (nI b) K := by
  unfold wp_X11_areFree
  try simp (disch := omega) only [k_0, k_1, k_2, k_3, k_4, k_6, k_7, k_10, k_11, k_12, k_13, k_14, k_16, k_32, k_36, k_40, k_41, k_42, k_43, k_49, k_64, k_80, k_96, k_97, k_100, k_109, k_110, k_127, k_128, k_146, k_147, k_160, k_2304, k_4608, k_13824, nI_add, pk_mul, pk_sub, nI_clamp, q_in, nI_ltI, nI_leI, nI_eq, forall_eq, e_shl, e_bit, e_b0, e_b1, e_bn, e_andn, fa_or, fa_and, e_m1, e_nneg]
  repeat (first | refine And.intro (fun hh => absurd hh (by omega)) (fun _ => ?_) | refine And.intro (fun _ => ?_) (fun hh => absurd hh (by omega)) | refine And.intro (by omega) ?_)
  rw [hf a ha]
  try simp (disch := omega) only [k_0, k_1, k_2, k_3, k_4, k_6, k_7, k_10, k_11, k_12, k_13, k_14, k_16, k_32, k_36, k_40, k_41, k_42, k_43, k_49, k_64, k_80, k_96, k_97, k_100, k_109, k_110, k_127, k_128, k_146, k_147, k_160, k_2304, k_4608, k_13824, nI_add, pk_mul, pk_sub, nI_clamp, q_in, nI_ltI, nI_leI, nI_eq, forall_eq, e_shl, e_bit, e_b0, e_b1, e_bn, e_andn, fa_or, fa_and, e_m1, e_nneg]
  unfold ind at hK
  refine ⟨fun h => ?_, fun h => ?_⟩
  · rw [tb_false h] at hK; exact hK
  · rw [h] at hK; exact hK
def RW (row : Nat → Int32) (u : List Nat) : Prop := ∀ i, i < u.length → row i = nI (u.getD i 0)
def WV (v : Nat → Int32) (w : Nat) (u : List Nat) : Prop := v (7 + w) = nI u.length ∧ u.length ≤ 16 ∧ ∀ i, i < u.length → v (13 + 16 * w + i) = nI (u.getD i 0)
theorem s_takesOne {ol : Int32} {v one : Nat → Int32} {w : Nat} {u : List Nat} (hw : w < 6) (h : WV v w u) {K : Int32 → (Nat → Int32) → Prop} (hK : ∀ one', RW one' u → K (nI u.length) one') : wp_X11_takesOne ol v one (nI w) K := by
  obtain ⟨h1, h2, h3⟩ := h
  unfold wp_X11_takesOne
  try simp (disch := omega) only [k_0, k_1, k_2, k_3, k_4, k_6, k_7, k_10, k_11, k_12, k_13, k_14, k_16, k_32, k_36, k_40, k_41, k_42, k_43, k_49, k_64, k_80, k_96, k_97, k_100, k_109, k_110, k_127, k_128, k_146, k_147, k_160, k_2304, k_4608, k_13824, nI_add, pk_mul, pk_sub, nI_clamp, q_in, nI_ltI, nI_leI, nI_eq, forall_eq, e_shl, e_bit, e_b0, e_b1, e_bn, e_andn, fa_or, fa_and, e_m1, e_nneg]
  repeat (first | refine And.intro (fun hh => absurd hh (by omega)) (fun _ => ?_) | refine And.intro (fun _ => ?_) (fun hh => absurd hh (by omega)) | refine And.intro (by omega) ?_)
  rw [h1]
  refine for_X11_takesOne_L15 _ _ _ _ u.length (fun i o => ∀ j, j < i → o j = nI (u.getD j 0)) ?_ ?_ 0 _ _ rfl (Nat.zero_le _) (fun j hj => absurd hj (Nat.not_lt_zero _))
  · intro again i o hi hJ hag
    unfold wp_X11_takesOne_L15
    try simp (disch := omega) only [k_0, k_1, k_2, k_3, k_4, k_6, k_7, k_10, k_11, k_12, k_13, k_14, k_16, k_32, k_36, k_40, k_41, k_42, k_43, k_49, k_64, k_80, k_96, k_97, k_100, k_109, k_110, k_127, k_128, k_146, k_147, k_160, k_2304, k_4608, k_13824, nI_add, pk_mul, pk_sub, nI_clamp, q_in, nI_ltI, nI_leI, nI_eq, forall_eq, e_shl, e_bit, e_b0, e_b1, e_bn, e_andn, fa_or, fa_and, e_m1, e_nneg]
    repeat (first | refine And.intro (fun hh => absurd hh (by omega)) (fun _ => ?_) | refine And.intro (fun _ => ?_) (fun hh => absurd hh (by omega)) | refine And.intro (by omega) ?_)
    refine hag _ (fun j hj => ?_)
    by_cases e : j = i
    · subst e; rw [pk_us]; exact h3 j hi
    · rw [pk_un e]; exact hJ j (by omega)
  · intro again o hJ
    unfold wp_X11_takesOne_L15
    try simp (disch := omega) only [k_0, k_1, k_2, k_3, k_4, k_6, k_7, k_10, k_11, k_12, k_13, k_14, k_16, k_32, k_36, k_40, k_41, k_42, k_43, k_49, k_64, k_80, k_96, k_97, k_100, k_109, k_110, k_127, k_128, k_146, k_147, k_160, k_2304, k_4608, k_13824, nI_add, pk_mul, pk_sub, nI_clamp, q_in, nI_ltI, nI_leI, nI_eq, forall_eq, e_shl, e_bit, e_b0, e_b1, e_bn, e_andn, fa_or, fa_and, e_m1, e_nneg]
    repeat (first | refine And.intro (fun hh => absurd hh (by omega)) (fun _ => ?_) | refine And.intro (fun _ => ?_) (fun hh => absurd hh (by omega)) | refine And.intro (by omega) ?_)
    exact hK _ hJ
theorem s_takesOther {ol : Int32} {v one : Nat → Int32} {w : Nat} {u : List Nat} (hw : w < 6) (h : WV v w u) {K : Int32 → (Nat → Int32) → Prop} (hK : ∀ one', RW one' u → K (nI u.length) one') : wp_X11_takesOther ol v one (nI w) K := by
  obtain ⟨h1, h2, h3⟩ := h
  unfold wp_X11_takesOther
  try simp (disch := omega) only [k_0, k_1, k_2, k_3, k_4, k_6, k_7, k_10, k_11, k_12, k_13, k_14, k_16, k_32, k_36, k_40, k_41, k_42, k_43, k_49, k_64, k_80, k_96, k_97, k_100, k_109, k_110, k_127, k_128, k_146, k_147, k_160, k_2304, k_4608, k_13824, nI_add, pk_mul, pk_sub, nI_clamp, q_in, nI_ltI, nI_leI, nI_eq, forall_eq, e_shl, e_bit, e_b0, e_b1, e_bn, e_andn, fa_or, fa_and, e_m1, e_nneg]
  repeat (first | refine And.intro (fun hh => absurd hh (by omega)) (fun _ => ?_) | refine And.intro (fun _ => ?_) (fun hh => absurd hh (by omega)) | refine And.intro (by omega) ?_)
  rw [h1]
  refine for_X11_takesOther_L15 _ _ _ _ u.length (fun i o => ∀ j, j < i → o j = nI (u.getD j 0)) ?_ ?_ 0 _ _ rfl (Nat.zero_le _) (fun j hj => absurd hj (Nat.not_lt_zero _))
  · intro again i o hi hJ hag
    unfold wp_X11_takesOther_L15
    try simp (disch := omega) only [k_0, k_1, k_2, k_3, k_4, k_6, k_7, k_10, k_11, k_12, k_13, k_14, k_16, k_32, k_36, k_40, k_41, k_42, k_43, k_49, k_64, k_80, k_96, k_97, k_100, k_109, k_110, k_127, k_128, k_146, k_147, k_160, k_2304, k_4608, k_13824, nI_add, pk_mul, pk_sub, nI_clamp, q_in, nI_ltI, nI_leI, nI_eq, forall_eq, e_shl, e_bit, e_b0, e_b1, e_bn, e_andn, fa_or, fa_and, e_m1, e_nneg]
    repeat (first | refine And.intro (fun hh => absurd hh (by omega)) (fun _ => ?_) | refine And.intro (fun _ => ?_) (fun hh => absurd hh (by omega)) | refine And.intro (by omega) ?_)
    refine hag _ (fun j hj => ?_)
    by_cases e : j = i
    · subst e; rw [pk_us]; exact h3 j hi
    · rw [pk_un e]; exact hJ j (by omega)
  · intro again o hJ
    unfold wp_X11_takesOther_L15
    try simp (disch := omega) only [k_0, k_1, k_2, k_3, k_4, k_6, k_7, k_10, k_11, k_12, k_13, k_14, k_16, k_32, k_36, k_40, k_41, k_42, k_43, k_49, k_64, k_80, k_96, k_97, k_100, k_109, k_110, k_127, k_128, k_146, k_147, k_160, k_2304, k_4608, k_13824, nI_add, pk_mul, pk_sub, nI_clamp, q_in, nI_ltI, nI_leI, nI_eq, forall_eq, e_shl, e_bit, e_b0, e_b1, e_bn, e_andn, fa_or, fa_and, e_m1, e_nneg]
    repeat (first | refine And.intro (fun hh => absurd hh (by omega)) (fun _ => ?_) | refine And.intro (fun _ => ?_) (fun hh => absurd hh (by omega)) | refine And.intro (by omega) ?_)
    exact hK _ hJ
def GN (gone : Nat → Int32) (T : Nat → Bool) (n : Nat) : Prop := ∀ j, j < n → gone j = bI (T j)
theorem GN.set {gone : Nat → Int32} {T : Nat → Bool} {n i : Nat} (h : GN gone T n) : GN (upd gone i (vp_nar .boolean 1)) (setT T i) n := by
  intro j hj
  by_cases e : j = i
  · subst e; rw [pk_us]; simp [setT, vb_1, bI]
  · rw [pk_un e, h j hj]; simp [setT, e]
theorem s_isFirst {v gone row : Nat → Int32} {N : Nat} {fr : Nat → Nat} {u : List Nat} {T : Nat → Bool} {p : Nat} (hf : FV v fr) (hu : ∀ x ∈ u, x < 6) (hR : RW row u) (hN : u.length ≤ N) (h64 : u.length ≤ 64) (hN2 : N < 2 ^ 31) (hG : GN gone T u.length) (hp : p < u.length) {K : Int32 → Prop} (h1 : (T p = false ∧ ∀ j, j < p → T j = false → ind fr (u.getD j 0) (u.getD p 0) = true) → K 1) (h2 : ¬ (T p = false ∧ ∀ j, j < p → T j = false → ind fr (u.getD j 0) (u.getD p 0) = true) → K 0) : wp_X11_isFirst N v gone row (nI p) K := by
  have up := hu _ (getD_mem hp)
  have key : ∀ (kx : Int32 → Prop) (b : Bool), (b = !T p) → (∀ x, (x = 1 ∧ T p = false ∧ ∀ j, j < p → T j = false → ind fr (u.getD j 0) (u.getD p 0) = true) ∨ (x = 0 ∧ ¬ (T p = false ∧ ∀ j, j < p → T j = false → ind fr (u.getD j 0) (u.getD p 0) = true)) → kx x) → lp_X11_isFirst_L18 K kx N v gone row (nI p) (bI b) 0 := by
    intro kx b hb hkx
    refine for_X11_isFirst_L18 _ _ _ _ _ _ p (fun i x => (x = 1 ∧ T p = false ∧ ∀ j, j < i → T j = false → ind fr (u.getD j 0) (u.getD p 0) = true) ∨ (x = 0 ∧ ¬ (T p = false ∧ ∀ j, j < p → T j = false → ind fr (u.getD j 0) (u.getD p 0) = true))) ?_ ?_ 0 _ _ rfl (Nat.zero_le _) ?_
    · intro again i x hi hJ hag
      have ui := hu _ (getD_mem (u := u) (i := i) (by omega))
      unfold wp_X11_isFirst_L18
      try simp (disch := omega) only [k_0, k_1, k_2, k_3, k_4, k_6, k_7, k_10, k_11, k_12, k_13, k_14, k_16, k_32, k_36, k_40, k_41, k_42, k_43, k_49, k_64, k_80, k_96, k_97, k_100, k_109, k_110, k_127, k_128, k_146, k_147, k_160, k_2304, k_4608, k_13824, nI_add, pk_mul, pk_sub, nI_clamp, q_in, nI_ltI, nI_leI, nI_eq, forall_eq, e_shl, e_bit, e_b0, e_b1, e_bn, e_andn, fa_or, fa_and, e_m1, e_nneg]
      repeat (first | refine And.intro (fun hh => absurd hh (by omega)) (fun _ => ?_) | refine And.intro (fun _ => ?_) (fun hh => absurd hh (by omega)) | refine And.intro (by omega) ?_)
      rcases hJ with ⟨rfl, hT, hJ⟩ | ⟨rfl, hJ⟩
      · refine br_f (by decide) ⟨by omega, ?_⟩
        rw [hG i (by omega), hR i (by omega), hR p hp]
        cases hTi : T i with
        | true =>
          refine br_f' (by decide) (hag _ (Or.inl ⟨rfl, hT, fun j hj hTj => ?_⟩))
          by_cases e : j = i
          · subst e; rw [hTi] at hTj; cases hTj
          · exact hJ j (by omega) hTj
        | false =>
          refine br_t' (by decide) ⟨by omega, by omega, s_free hf ui (by omega) ?_⟩
          cases hi2 : ind fr (u.getD i 0) (u.getD p 0) with
          | true =>
            refine br_f (by decide) (hag _ (Or.inl ⟨rfl, hT, fun j hj hTj => ?_⟩))
            by_cases e : j = i
            · subst e; exact hi2
            · exact hJ j (by omega) hTj
          | false =>
            refine br_t (by decide) (hag _ (Or.inr ⟨rfl, fun q => ?_⟩))
            have := q.2 i hi hTi
            rw [hi2] at this
            cases this
      · exact br_t (by decide) (hkx _ (Or.inr ⟨rfl, hJ⟩))
    · intro again x hJ
      unfold wp_X11_isFirst_L18
      try simp (disch := omega) only [k_0, k_1, k_2, k_3, k_4, k_6, k_7, k_10, k_11, k_12, k_13, k_14, k_16, k_32, k_36, k_40, k_41, k_42, k_43, k_49, k_64, k_80, k_96, k_97, k_100, k_109, k_110, k_127, k_128, k_146, k_147, k_160, k_2304, k_4608, k_13824, nI_add, pk_mul, pk_sub, nI_clamp, q_in, nI_ltI, nI_leI, nI_eq, forall_eq, e_shl, e_bit, e_b0, e_b1, e_bn, e_andn, fa_or, fa_and, e_m1, e_nneg]
      repeat (first | refine And.intro (fun hh => absurd hh (by omega)) (fun _ => ?_) | refine And.intro (fun _ => ?_) (fun hh => absurd hh (by omega)) | refine And.intro (by omega) ?_)
      exact hkx _ hJ
    · cases hT : T p with
      | true => rw [hT] at hb; rw [hb]; exact Or.inr ⟨rfl, fun q => by cases q.1⟩
      | false => rw [hT] at hb; rw [hb]; exact Or.inl ⟨rfl, rfl, fun j hj => absurd hj (Nat.not_lt_zero _)⟩
  have fin : ∀ x : Int32, (x = 1 ∧ T p = false ∧ ∀ j, j < p → T j = false → ind fr (u.getD j 0) (u.getD p 0) = true) ∨ (x = 0 ∧ ¬ (T p = false ∧ ∀ j, j < p → T j = false → ind fr (u.getD j 0) (u.getD p 0) = true)) → ((x = 0 ∨ x = 1) ∧ K x) := by
    rintro x (⟨rfl, h⟩ | ⟨rfl, h⟩)
    · exact ⟨Or.inr rfl, h1 h⟩
    · exact ⟨Or.inl rfl, h2 h⟩
  unfold wp_X11_isFirst
  have e1 : (nI p).toNatClampNeg = p := nI_clamp (by omega)
  rw [e1, hG p hp]
  refine ⟨(q_in (by omega)).mpr (by omega), fun h => ?_, fun h => ?_⟩
  · rw [bI_n] at h
    exact key _ false (by rw [h]; rfl) fin
  · rw [bI_0] at h
    exact key _ true (by rw [h]; rfl) fin
theorem s_placeOf {v gone row : Nat → Int32} {N : Nat} {fr : Nat → Nat} {u : List Nat} {T : Nat → Bool} {x : Nat} (hf : FV v fr) (hu : ∀ x ∈ u, x < 6) (hR : RW row u) (hN : u.length ≤ N) (h64 : u.length ≤ 64) (hN2 : N < 2 ^ 31) (hG : GN gone T u.length) (hx : x < 2 ^ 31) {K : Int32 → Prop} (h1 : ∀ i, i < u.length → isNx (ind fr) u T x i → K (nI i)) (h2 : (∀ i, ¬ isNx (ind fr) u T x i) → K (-1)) : wp_X11_placeOf N v gone row (nI u.length) (nI x) K := by
  unfold wp_X11_placeOf
  refine for_X11_placeOf_L3 _ _ _ _ _ _ _ _ u.length (fun i => ∀ j, j < i → ¬ isNx (ind fr) u T x j) ?_ ?_ 0 _ rfl (Nat.zero_le _) (fun j hj => absurd hj (Nat.not_lt_zero _))
  · intro again i hi hJ hag
    have ui := hu _ (getD_mem hi)
    unfold wp_X11_placeOf_L3
    try simp (disch := omega) only [k_0, k_1, k_2, k_3, k_4, k_6, k_7, k_10, k_11, k_12, k_13, k_14, k_16, k_32, k_36, k_40, k_41, k_42, k_43, k_49, k_64, k_80, k_96, k_97, k_100, k_109, k_110, k_127, k_128, k_146, k_147, k_160, k_2304, k_4608, k_13824, nI_add, pk_mul, pk_sub, nI_clamp, q_in, nI_ltI, nI_leI, nI_eq, forall_eq, e_shl, e_bit, e_b0, e_b1, e_bn, e_andn, fa_or, fa_and, e_m1, e_nneg]
    repeat (first | refine And.intro (fun hh => absurd hh (by omega)) (fun _ => ?_) | refine And.intro (fun _ => ?_) (fun hh => absurd hh (by omega)) | refine And.intro (by omega) ?_)
    rw [hR i hi]
    try simp (disch := omega) only [k_0, k_1, k_2, k_3, k_4, k_6, k_7, k_10, k_11, k_12, k_13, k_14, k_16, k_32, k_36, k_40, k_41, k_42, k_43, k_49, k_64, k_80, k_96, k_97, k_100, k_109, k_110, k_127, k_128, k_146, k_147, k_160, k_2304, k_4608, k_13824, nI_add, pk_mul, pk_sub, nI_clamp, q_in, nI_ltI, nI_leI, nI_eq, forall_eq, e_shl, e_bit, e_b0, e_b1, e_bn, e_andn, fa_or, fa_and, e_m1, e_nneg]
    refine ⟨fun q => hag (fun j hj h => ?_), fun q => s_isFirst hf hu hR hN h64 hN2 hG hi (fun h => ?_) (fun h => ?_)⟩
    · by_cases e : j = i
      · subst e; exact q h.2.1
      · exact hJ j (by omega) h
    · refine br_f (by decide) (h1 i hi ⟨hi, q, h.1, fun j hj hT => ?_⟩)
      rw [← q]; exact h.2 j hj hT
    · refine br_t (by decide) (hag (fun j hj hn => ?_))
      by_cases e : j = i
      · subst e
        refine h ⟨hn.2.2.1, fun j2 hj2 hT => ?_⟩
        rw [q]; exact hn.2.2.2 j2 hj2 hT
      · exact hJ j (by omega) hn
  · intro again hJ
    unfold wp_X11_placeOf_L3
    try simp (disch := omega) only [k_0, k_1, k_2, k_3, k_4, k_6, k_7, k_10, k_11, k_12, k_13, k_14, k_16, k_32, k_36, k_40, k_41, k_42, k_43, k_49, k_64, k_80, k_96, k_97, k_100, k_109, k_110, k_127, k_128, k_146, k_147, k_160, k_2304, k_4608, k_13824, nI_add, pk_mul, pk_sub, nI_clamp, q_in, nI_ltI, nI_leI, nI_eq, forall_eq, e_shl, e_bit, e_b0, e_b1, e_bn, e_andn, fa_or, fa_and, e_m1, e_nneg]
    repeat (first | refine And.intro (fun hh => absurd hh (by omega)) (fun _ => ?_) | refine And.intro (fun _ => ?_) (fun hh => absurd hh (by omega)) | refine And.intro (by omega) ?_)
    exact h2 (fun i hn => hJ i hn.1 hn)
theorem s_allThere {gone : Nat → Int32} {n : Nat} (hn : n ≤ 64) {K : (Nat → Int32) → Prop} (hK : ∀ g, GN g (fun _ => false) n → K g) : wp_X11_allThere gone (nI n) K := by
  unfold wp_X11_allThere
  refine for_X11_allThere_L2 _ _ n (fun i g => ∀ j, j < i → g j = bI false) ?_ ?_ 0 _ _ rfl (Nat.zero_le _) (fun j hj => absurd hj (Nat.not_lt_zero _))
  · intro again i g hi hJ hag
    unfold wp_X11_allThere_L2
    rw [vb_0]
    try simp (disch := omega) only [k_0, k_1, k_2, k_3, k_4, k_6, k_7, k_10, k_11, k_12, k_13, k_14, k_16, k_32, k_36, k_40, k_41, k_42, k_43, k_49, k_64, k_80, k_96, k_97, k_100, k_109, k_110, k_127, k_128, k_146, k_147, k_160, k_2304, k_4608, k_13824, nI_add, pk_mul, pk_sub, nI_clamp, q_in, nI_ltI, nI_leI, nI_eq, forall_eq, e_shl, e_bit, e_b0, e_b1, e_bn, e_andn, fa_or, fa_and, e_m1, e_nneg]
    repeat (first | refine And.intro (fun hh => absurd hh (by omega)) (fun _ => ?_) | refine And.intro (fun _ => ?_) (fun hh => absurd hh (by omega)) | refine And.intro (by omega) ?_)
    refine hag _ (fun j hj => ?_)
    by_cases e : j = i
    · subst e; exact pk_us
    · rw [pk_un e]; exact hJ j (by omega)
  · intro again g hJ
    unfold wp_X11_allThere_L2
    try simp (disch := omega) only [k_0, k_1, k_2, k_3, k_4, k_6, k_7, k_10, k_11, k_12, k_13, k_14, k_16, k_32, k_36, k_40, k_41, k_42, k_43, k_49, k_64, k_80, k_96, k_97, k_100, k_109, k_110, k_127, k_128, k_146, k_147, k_160, k_2304, k_4608, k_13824, nI_add, pk_mul, pk_sub, nI_clamp, q_in, nI_ltI, nI_leI, nI_eq, forall_eq, e_shl, e_bit, e_b0, e_b1, e_bn, e_andn, fa_or, fa_and, e_m1, e_nneg]
    repeat (first | refine And.intro (fun hh => absurd hh (by omega)) (fun _ => ?_) | refine And.intro (fun _ => ?_) (fun hh => absurd hh (by omega)) | refine And.intro (by omega) ?_)
    exact hK _ hJ
theorem s_normalizes {v gone row made : Nat → Int32} {ml : Int32} {N k : Nat} {fr : Nat → Nat} {u : List Nat} (irr : ∀ a, ind fr a a = false) (hf : FV v fr) (hk : k ≤ 6) (hu : ∀ x ∈ u, x < k) (hR : RW row u) (hN : u.length ≤ N) (h64 : u.length ≤ 64) (hN2 : N < 2 ^ 31) {K : Int32 → (Nat → Int32) → (Nat → Int32) → Prop} (hK : ∀ made' g', RW made' (nf fr k u) → K (nI (nf fr k u).length) made' g') : wp_X11_normalizes N ml v made gone row (nI u.length) K := by
  have hu6 : ∀ x ∈ u, x < 6 := fun x hx => Nat.lt_of_lt_of_le (hu x hx) hk
  unfold wp_X11_normalizes
  refine s_allThere h64 (fun g hg => ?_)
  refine lp_X11_normalizes_L10_of _ _ _ _ _ (fun m md gn => ∃ T r d, m = nI d.length ∧ GN gn T u.length ∧ rem u T = r ∧ r.length + d.length = u.length ∧ nf fr k u = d ++ nf fr k r ∧ RW md d) (fun m _ _ => u.length - m.toNatClampNeg) ?_ _ _ _ ⟨fun _ => false, u, [], rfl, hg, rem_none u _ (fun _ _ => rfl), by simp, by simp, fun i hi => absurd hi (Nat.not_lt_zero _)⟩
  rintro again m md gn ⟨T, r, d, rfl, hG, hr, hlen, hnf, hmd⟩ hag
  unfold wp_X11_normalizes_L10
  try simp (disch := omega) only [k_0, k_1, k_2, k_3, k_4, k_6, k_7, k_10, k_11, k_12, k_13, k_14, k_16, k_32, k_36, k_40, k_41, k_42, k_43, k_49, k_64, k_80, k_96, k_97, k_100, k_109, k_110, k_127, k_128, k_146, k_147, k_160, k_2304, k_4608, k_13824, nI_add, pk_mul, pk_sub, nI_clamp, q_in, nI_ltI, nI_leI, nI_eq, forall_eq, e_shl, e_bit, e_b0, e_b1, e_bn, e_andn, fa_or, fa_and, e_m1, e_nneg]
  refine ⟨fun q => ?_, fun q => ?_⟩
  · have e4 : r = [] := List.length_eq_zero_iff.mp (by omega)
    have e5 : nf fr k u = d := by rw [hnf, e4]; simp [nf, nfs]
    rw [← e5] at hmd ⊢
    exact hK _ _ hmd
  · have hrk : ∀ x ∈ r, x < k := fun x hx => by
      rw [← hr, mem_rem] at hx
      obtain ⟨i, hi, -, e⟩ := hx
      rw [← e]
      exact hu _ (getD_mem hi)
    obtain ⟨z, r2, z1, z2, z3, z4⟩ := lowl_ex (f := ind fr) hrk (fun e => by rw [e] at hlen; simp at hlen; omega)
    have hz : ∀ x, x < 2 ^ 31 → ∀ {Q : Int32 → Prop}, (∀ y, ((rmv (ind fr) x r = none ∧ y = -1) ∨ ∃ p, isNx (ind fr) u T x p ∧ y = nI p) → Q y) → wp_X11_placeOf N v gn row (nI u.length) (nI x) Q := by
      intro x hx Q hQ
      refine s_placeOf hf hu6 hR hN h64 hN2 hG hx (fun i hi hn => hQ _ (Or.inr ⟨i, hn, rfl⟩)) (fun hn => hQ _ (Or.inl ⟨?_, rfl⟩))
      rw [← hr]
      exact rem_no u T x hn
    refine hz 0 (by decide) (fun y hy => ?_)
    refine for_X11_normalizes_L29 _ _ _ _ _ _ (z) (fun i x => (rmv (ind fr) i r = none ∧ x = -1) ∨ ∃ p, isNx (ind fr) u T i p ∧ x = nI p) ?_ ?_ (0) _ _ rfl (Nat.zero_le _) (hy)
    · intro again2 i x hi hJ hag2
      have e1 : x = -1 := by
        rcases hJ with ⟨-, e⟩ | ⟨p, hp, -⟩
        · exact e
        · have := rem_nx irr u T i p hp
          rw [hr, z2 i hi] at this
          cases this
      unfold wp_X11_normalizes_L29
      refine br_f (by rw [e1]; decide) ?_
      try simp (disch := omega) only [k_0, k_1, k_2, k_3, k_4, k_6, k_7, k_10, k_11, k_12, k_13, k_14, k_16, k_32, k_36, k_40, k_41, k_42, k_43, k_49, k_64, k_80, k_96, k_97, k_100, k_109, k_110, k_127, k_128, k_146, k_147, k_160, k_2304, k_4608, k_13824, nI_add, pk_mul, pk_sub, nI_clamp, q_in, nI_ltI, nI_leI, nI_eq, forall_eq, e_shl, e_bit, e_b0, e_b1, e_bn, e_andn, fa_or, fa_and, e_m1, e_nneg]
      exact hz (i + 1) (by omega) (fun y hy => hag2 _ hy)
    · intro again2 x hJ
      rcases hJ with ⟨e, -⟩ | ⟨p, hp, rfl⟩
      · rw [z3] at e; cases e
      · have hp1 := hp.1
        have h5 := rem_nx irr u T z p hp
        rw [hr, z3] at h5
        have h6 := rmv_len r z r2 z3
        unfold wp_X11_normalizes_L29
        try simp (disch := omega) only [k_0, k_1, k_2, k_3, k_4, k_6, k_7, k_10, k_11, k_12, k_13, k_14, k_16, k_32, k_36, k_40, k_41, k_42, k_43, k_49, k_64, k_80, k_96, k_97, k_100, k_109, k_110, k_127, k_128, k_146, k_147, k_160, k_2304, k_4608, k_13824, nI_add, pk_mul, pk_sub, nI_clamp, q_in, nI_ltI, nI_leI, nI_eq, forall_eq, e_shl, e_bit, e_b0, e_b1, e_bn, e_andn, fa_or, fa_and, e_m1, e_nneg]
        repeat (first | refine And.intro (fun hh => absurd hh (by omega)) (fun _ => ?_) | refine And.intro (fun _ => ?_) (fun hh => absurd hh (by omega)) | refine And.intro (by omega) ?_)
        refine hag _ _ _ ⟨setT T p, r2, d ++ [z], by simp, hG.set, (Option.some.inj h5).symm, by simp; omega, ?_, ?_⟩ ?_
        · rw [hnf, List.append_assoc]
          congr 1
          show nfs (ind fr) k r.length r = z :: nfs (ind fr) k r2.length r2
          rw [h6, nfs_s z4]
        · intro i hi
          simp at hi
          by_cases e : i = d.length
          · subst e; rw [pk_us, getD_last]
          · rw [pk_un e, getD_app (by omega)]; exact hmd i (by omega)
        · try simp (disch := omega) only [k_0, k_1, k_2, k_3, k_4, k_6, k_7, k_10, k_11, k_12, k_13, k_14, k_16, k_32, k_36, k_40, k_41, k_42, k_43, k_49, k_64, k_80, k_96, k_97, k_100, k_109, k_110, k_127, k_128, k_146, k_147, k_160, k_2304, k_4608, k_13824, nI_add, pk_mul, pk_sub, nI_clamp, q_in, nI_ltI, nI_leI, nI_eq, forall_eq, e_shl, e_bit, e_b0, e_b1, e_bn, e_andn, fa_or, fa_and, e_m1, e_nneg]
          omega
theorem rem_snoc : ∀ (a : List Nat) (c : Nat) (T : Nat → Bool), rem (a ++ [c]) T = rem a T ++ (if T a.length = true then [] else [c])
  | [], c, T => by
    rw [List.nil_append, rem_cons, rem_nil, rem_nil]
    rfl
  | b :: a, c, T => by
    rw [List.cons_append, rem_cons, rem_cons, rem_snoc a c]
    show _ = _ ++ if T (a.length + 1) = true then [] else [c]
    split <;> rfl
theorem rem_len_le : ∀ (a : List Nat) (T : Nat → Bool), (rem a T).length ≤ a.length
  | [], T => by rw [rem_nil]; simp
  | b :: a, T => by
    have := rem_len_le a (fun j => T (j + 1))
    rw [rem_cons]
    split <;> simp <;> omega
theorem s_divides {v gone one other : Nat → Int32} {fr : Nat → Nat} {a b : List Nat} (irr : ∀ a, ind fr a a = false) (hf : FV v fr) (ha : ∀ x ∈ a, x < 6) (hb : ∀ x ∈ b, x < 6) (hA : RW one a) (hB : RW other b) (h64 : a.length ≤ 64) (h64b : b.length ≤ 64) {K : Int32 → Int32 → (Nat → Int32) → (Nat → Int32) → Prop} (h1 : ∀ r o g, dvd (ind fr) a b = some r → RW o r → K 1 (nI r.length) o g) (h2 : ∀ g, dvd (ind fr) a b = none → K 0 (nI b.length) other g) : wp_X11_divides (nI a.length) (nI b.length) v one other gone K := by
  unfold wp_X11_divides
  refine s_allThere h64b (fun g hg => ?_)
  refine for_X11_divides_L10 _ _ _ _ _ _ _ a.length (fun i g => ∃ T, GN g T b.length ∧ dvd (ind fr) a b = dvd (ind fr) (a.drop i) (rem b T)) ?_ ?_ 0 _ _ rfl (Nat.zero_le _) ⟨_, hg, by rw [rem_none b _ (fun _ _ => rfl)]; rfl⟩
  · rintro again i g hi ⟨T, hG, hd⟩ hag
    have ui := ha _ (getD_mem hi)
    unfold wp_X11_divides_L10
    try simp (disch := omega) only [k_0, k_1, k_2, k_3, k_4, k_6, k_7, k_10, k_11, k_12, k_13, k_14, k_16, k_32, k_36, k_40, k_41, k_42, k_43, k_49, k_64, k_80, k_96, k_97, k_100, k_109, k_110, k_127, k_128, k_146, k_147, k_160, k_2304, k_4608, k_13824, nI_add, pk_mul, pk_sub, nI_clamp, q_in, nI_ltI, nI_leI, nI_eq, forall_eq, e_shl, e_bit, e_b0, e_b1, e_bn, e_andn, fa_or, fa_and, e_m1, e_nneg]
    repeat (first | refine And.intro (fun hh => absurd hh (by omega)) (fun _ => ?_) | refine And.intro (fun _ => ?_) (fun hh => absurd hh (by omega)) | refine And.intro (by omega) ?_)
    rw [hA i hi]
    have e : a.drop i = a.getD i 0 :: a.drop (i + 1) := by
      rw [List.drop_eq_getElem_cons hi, List.getD_eq_getElem?_getD, List.getElem?_eq_getElem hi]
      rfl
    refine s_placeOf hf hb hB h64b h64b (by decide) hG (by omega) (fun p hp hn => ?_) (fun hn => ?_)
    · try simp (disch := omega) only [k_0, k_1, k_2, k_3, k_4, k_6, k_7, k_10, k_11, k_12, k_13, k_14, k_16, k_32, k_36, k_40, k_41, k_42, k_43, k_49, k_64, k_80, k_96, k_97, k_100, k_109, k_110, k_127, k_128, k_146, k_147, k_160, k_2304, k_4608, k_13824, nI_add, pk_mul, pk_sub, nI_clamp, q_in, nI_ltI, nI_leI, nI_eq, forall_eq, e_shl, e_bit, e_b0, e_b1, e_bn, e_andn, fa_or, fa_and, e_m1, e_nneg]
      repeat (first | refine And.intro (fun hh => absurd hh (by omega)) (fun _ => ?_) | refine And.intro (fun _ => ?_) (fun hh => absurd hh (by omega)) | refine And.intro (by omega) ?_)
      refine hag _ ⟨_, hG.set, ?_⟩
      rw [hd, e, dvd, rem_nx irr b T _ p hn]
    · refine br_f (by decide) (h2 _ ?_)
      rw [hd, e, dvd, rem_no b T _ hn]
  · rintro again g ⟨T, hG, hd⟩
    rw [List.drop_length] at hd
    unfold wp_X11_divides_L10
    try simp (disch := omega) only [k_0, k_1, k_2, k_3, k_4, k_6, k_7, k_10, k_11, k_12, k_13, k_14, k_16, k_32, k_36, k_40, k_41, k_42, k_43, k_49, k_64, k_80, k_96, k_97, k_100, k_109, k_110, k_127, k_128, k_146, k_147, k_160, k_2304, k_4608, k_13824, nI_add, pk_mul, pk_sub, nI_clamp, q_in, nI_ltI, nI_leI, nI_eq, forall_eq, e_shl, e_bit, e_b0, e_b1, e_bn, e_andn, fa_or, fa_and, e_m1, e_nneg]
    repeat (first | refine And.intro (fun hh => absurd hh (by omega)) (fun _ => ?_) | refine And.intro (fun _ => ?_) (fun hh => absurd hh (by omega)) | refine And.intro (by omega) ?_)
    refine for_X11_divides_L60 _ _ _ (b.length) (fun i x o => x = nI (rem (b.take i) T).length ∧ RW o (rem (b.take i) T) ∧ ∀ j, i ≤ j → j < b.length → o j = nI (b.getD j 0)) ?_ ?_ (0) _ _ _ rfl (Nat.zero_le _) (⟨by simp [rem_nil], fun j hj => by simp [rem_nil] at hj, fun j _ hj => hB j hj⟩)
    · rintro again2 i x o hi ⟨rfl, hR, ho⟩ hag2
      have hl := rem_len_le (b.take i) T
      have hl2 : (b.take i).length = i := by simp; omega
      unfold wp_X11_divides_L60
      try simp (disch := omega) only [k_0, k_1, k_2, k_3, k_4, k_6, k_7, k_10, k_11, k_12, k_13, k_14, k_16, k_32, k_36, k_40, k_41, k_42, k_43, k_49, k_64, k_80, k_96, k_97, k_100, k_109, k_110, k_127, k_128, k_146, k_147, k_160, k_2304, k_4608, k_13824, nI_add, pk_mul, pk_sub, nI_clamp, q_in, nI_ltI, nI_leI, nI_eq, forall_eq, e_shl, e_bit, e_b0, e_b1, e_bn, e_andn, fa_or, fa_and, e_m1, e_nneg]
      repeat (first | refine And.intro (fun hh => absurd hh (by omega)) (fun _ => ?_) | refine And.intro (fun _ => ?_) (fun hh => absurd hh (by omega)) | refine And.intro (by omega) ?_)
      rw [hG i hi]
      have e : rem (b.take (i + 1)) T = rem (b.take i) T ++ (if T i = true then [] else [b.getD i 0]) := by
        rw [take_snoc hi, rem_snoc, hl2]
      refine ⟨fun q => ?_, fun q => ⟨by omega, by omega, ?_⟩⟩
      · have hT : T i = true := by cases h : T i with
          | true => rfl
          | false => rw [h] at q; exact absurd rfl q
        rw [hT, if_pos rfl, List.append_nil] at e
        exact hag2 _ _ ⟨by rw [e], by rw [e]; exact hR, fun j h3 h4 => ho j (by omega) h4⟩
      · have hT : T i = false := by cases h : T i with
          | false => rfl
          | true => rw [h] at q; exact absurd q (by decide)
        rw [hT, if_neg (by decide)] at e
        refine hag2 _ _ ⟨by rw [e]; simp, ?_, fun j h3 h4 => ?_⟩
        · rw [e]
          intro j hj
          simp at hj
          by_cases ej : j = (rem (b.take i) T).length
          · subst ej; rw [pk_us, getD_last]; exact ho i (Nat.le_refl _) hi
          · rw [pk_un ej, getD_app (by omega)]; exact hR j (by omega)
        · rw [pk_un (by omega)]; exact ho j (by omega) h4
    · rintro again2 x o ⟨rfl, hR, -⟩
      unfold wp_X11_divides_L60
      try simp (disch := omega) only [k_0, k_1, k_2, k_3, k_4, k_6, k_7, k_10, k_11, k_12, k_13, k_14, k_16, k_32, k_36, k_40, k_41, k_42, k_43, k_49, k_64, k_80, k_96, k_97, k_100, k_109, k_110, k_127, k_128, k_146, k_147, k_160, k_2304, k_4608, k_13824, nI_add, pk_mul, pk_sub, nI_clamp, q_in, nI_ltI, nI_leI, nI_eq, forall_eq, e_shl, e_bit, e_b0, e_b1, e_bn, e_andn, fa_or, fa_and, e_m1, e_nneg]
      repeat (first | refine And.intro (fun hh => absurd hh (by omega)) (fun _ => ?_) | refine And.intro (fun _ => ?_) (fun hh => absurd hh (by omega)) | refine And.intro (by omega) ?_)
      rw [List.take_length] at hR ⊢
      exact h1 _ _ _ hd hR
