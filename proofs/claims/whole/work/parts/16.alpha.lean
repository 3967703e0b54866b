/-! a value made step by step -/
def fld {α : Type} (g : Nat → α → α) (a : α) : Nat → α
  | 0 => a
  | i + 1 => g i (fld g a i)
theorem fld_0 {α : Type} (g : Nat → α → α) (a : α) : fld g a 0 = a := rfl
theorem fld_s {α : Type} (g : Nat → α → α) (a : α) (i : Nat) : fld g a (i + 1) = g i (fld g a i) := rfl
theorem fld_cong {α : Type} {g h : Nat → α → α} {a : α} : ∀ {n : Nat}, (∀ i s, i < n → g i s = h i s) → fld g a n = fld h a n
  | 0, _ => rfl
  | n + 1, e => by rw [fld_s, fld_s, fld_cong (fun i s hi => e i s (by omega)), e n _ (by omega)]
/-! rows of letters: sets, counts, copies -/
def lset (u : List Nat) (n : Nat) : Nat := fld (fun i s => s ||| 2 ^ u.getD i 0) 0 n
theorem lset_lt {u : List Nat} {k : Nat} (h : ∀ x ∈ u, x < k) : ∀ n, n ≤ u.length → lset u n < 2 ^ k
  | 0, _ => Nat.two_pow_pos k
  | n + 1, hn => or2_lt (lset_lt h n (by omega)) (h _ (getD_mem hn))
theorem lset_bit (u : List Nat) (j : Nat) : ∀ n, (lset u n).testBit j = true ↔ ∃ i, i < n ∧ u.getD i 0 = j
  | 0 => by
    constructor
    · intro h; simp [lset, fld] at h
    · rintro ⟨i, hi, -⟩; exact absurd hi (Nat.not_lt_zero _)
  | n + 1 => by
    show (lset u n ||| 2 ^ u.getD n 0).testBit j = true ↔ _
    rw [tb_or2, Bool.or_eq_true, lset_bit u j n, decide_eq_true_eq]
    constructor
    · rintro (⟨i, hi, e⟩ | e)
      · exact ⟨i, by omega, e⟩
      · exact ⟨n, by omega, e.symm⟩
    · rintro ⟨i, hi, e⟩
      by_cases q : i = n
      · subst q; exact Or.inr e.symm
      · exact Or.inl ⟨i, by omega, e⟩
theorem s_letterSet {lt : Nat → Int32} {u : List Nat} (h : WR (nI u.length) lt u) (hu : ∀ x ∈ u, x < 6) {K : Int32 → Prop} (hK : K (nI (lset u u.length))) : wp_X9_letterSet (nI u.length) lt K := by
  have h2 := h.2.1
  refine for_X9_letterSet_L4 _ _ _ u.length (fun i x => x = nI (lset u i)) ?_ ?_ 0 _ _ rfl (Nat.zero_le _) rfl
  · rintro again i x hi rfl hag
    have := hu _ (getD_mem hi)
    unfold wp_X9_letterSet_L4
    try simp (disch := omega) only [k_0, k_1, k_2, k_3, k_4, k_6, k_7, k_10, k_11, k_12, k_13, k_14, k_16, k_32, k_36, k_40, k_41, k_42, k_43, k_49, k_64, k_80, k_96, k_97, k_100, k_109, k_110, k_127, k_128, k_146, k_147, k_160, k_2304, k_4608, k_13824, nI_add, pk_mul, pk_sub, nI_clamp, q_in, nI_ltI, nI_leI, nI_eq, forall_eq, e_shl, e_bit, e_b0, e_b1, e_bn, e_andn, fa_or, fa_and, e_m1, e_nneg]
    repeat (first | refine And.intro (fun hh => absurd hh (by omega)) (fun _ => ?_) | refine And.intro (fun _ => ?_) (fun hh => absurd hh (by omega)) | refine And.intro (by omega) ?_)
    refine s_at h hi ?_
    try simp (disch := omega) only [k_0, k_1, k_2, k_3, k_4, k_6, k_7, k_10, k_11, k_12, k_13, k_14, k_16, k_32, k_36, k_40, k_41, k_42, k_43, k_49, k_64, k_80, k_96, k_97, k_100, k_109, k_110, k_127, k_128, k_146, k_147, k_160, k_2304, k_4608, k_13824, nI_add, pk_mul, pk_sub, nI_clamp, q_in, nI_ltI, nI_leI, nI_eq, forall_eq, e_shl, e_bit, e_b0, e_b1, e_bn, e_andn, fa_or, fa_and, e_m1, e_nneg]
    exact hag _ rfl
  · rintro again x rfl
    unfold wp_X9_letterSet_L4
    try simp (disch := omega) only [k_0, k_1, k_2, k_3, k_4, k_6, k_7, k_10, k_11, k_12, k_13, k_14, k_16, k_32, k_36, k_40, k_41, k_42, k_43, k_49, k_64, k_80, k_96, k_97, k_100, k_109, k_110, k_127, k_128, k_146, k_147, k_160, k_2304, k_4608, k_13824, nI_add, pk_mul, pk_sub, nI_clamp, q_in, nI_ltI, nI_leI, nI_eq, forall_eq, e_shl, e_bit, e_b0, e_b1, e_bn, e_andn, fa_or, fa_and, e_m1, e_nneg]
    repeat (first | refine And.intro (fun hh => absurd hh (by omega)) (fun _ => ?_) | refine And.intro (fun _ => ?_) (fun hh => absurd hh (by omega)) | refine And.intro (by omega) ?_)
    exact hK
def cntB (u : List Nat) (x n : Nat) : Nat := fld (fun i s => if u.getD i 0 = x then s + 1 else s) 0 n
theorem cntB_s (u : List Nat) (x n : Nat) : cntB u x (n + 1) = if u.getD n 0 = x then cntB u x n + 1 else cntB u x n := rfl
theorem cntB_le (u : List Nat) (x : Nat) : ∀ n, cntB u x n ≤ n
  | 0 => Nat.le_refl 0
  | n + 1 => by
    have := cntB_le u x n
    rw [cntB_s]
    split <;> omega
theorem s_countBefore {lt : Nat → Int32} {u : List Nat} (h : WR (nI u.length) lt u) (hu : ∀ x ∈ u, x < 6) {x e : Nat} (hx : x < 6) (he : e ≤ u.length) {K : Int32 → Prop} (hK : K (nI (cntB u x e))) : wp_X9_countBefore (nI u.length) lt (nI x) (nI e) K := by
  have h2 := h.2.1
  refine for_X9_countBefore_L5 _ _ _ _ _ e (fun i c => c = nI (cntB u x i)) ?_ ?_ 0 _ _ rfl (Nat.zero_le _) rfl
  · rintro again i c hi rfl hag
    have h4 := hu _ (getD_mem (u := u) (i := i) (by omega))
    unfold wp_X9_countBefore_L5
    try simp (disch := omega) only [k_0, k_1, k_2, k_3, k_4, k_6, k_7, k_10, k_11, k_12, k_13, k_14, k_16, k_32, k_36, k_40, k_41, k_42, k_43, k_49, k_64, k_80, k_96, k_97, k_100, k_109, k_110, k_127, k_128, k_146, k_147, k_160, k_2304, k_4608, k_13824, nI_add, pk_mul, pk_sub, nI_clamp, q_in, nI_ltI, nI_leI, nI_eq, forall_eq, e_shl, e_bit, e_b0, e_b1, e_bn, e_andn, fa_or, fa_and, e_m1, e_nneg]
    repeat (first | refine And.intro (fun hh => absurd hh (by omega)) (fun _ => ?_) | refine And.intro (fun _ => ?_) (fun hh => absurd hh (by omega)) | refine And.intro (by omega) ?_)
    refine s_at h (by omega) ?_
    try simp (disch := omega) only [k_0, k_1, k_2, k_3, k_4, k_6, k_7, k_10, k_11, k_12, k_13, k_14, k_16, k_32, k_36, k_40, k_41, k_42, k_43, k_49, k_64, k_80, k_96, k_97, k_100, k_109, k_110, k_127, k_128, k_146, k_147, k_160, k_2304, k_4608, k_13824, nI_add, pk_mul, pk_sub, nI_clamp, q_in, nI_ltI, nI_leI, nI_eq, forall_eq, e_shl, e_bit, e_b0, e_b1, e_bn, e_andn, fa_or, fa_and, e_m1, e_nneg]
    rw [cntB_s] at hag
    refine ⟨fun hc => ?_, fun hc => ?_⟩
    · rw [if_neg hc] at hag; exact hag _ rfl
    · rw [if_pos hc] at hag; exact hag _ rfl
  · rintro again c rfl
    unfold wp_X9_countBefore_L5
    try simp (disch := omega) only [k_0, k_1, k_2, k_3, k_4, k_6, k_7, k_10, k_11, k_12, k_13, k_14, k_16, k_32, k_36, k_40, k_41, k_42, k_43, k_49, k_64, k_80, k_96, k_97, k_100, k_109, k_110, k_127, k_128, k_146, k_147, k_160, k_2304, k_4608, k_13824, nI_add, pk_mul, pk_sub, nI_clamp, q_in, nI_ltI, nI_leI, nI_eq, forall_eq, e_shl, e_bit, e_b0, e_b1, e_bn, e_andn, fa_or, fa_and, e_m1, e_nneg]
    repeat (first | refine And.intro (fun hh => absurd hh (by omega)) (fun _ => ?_) | refine And.intro (fun _ => ?_) (fun hh => absurd hh (by omega)) | refine And.intro (by omega) ?_)
    exact hK
theorem WR.congr {sz : Int32} {lt lt' : Nat → Int32} {u : List Nat} (h : WR sz lt u) (hl : ∀ j, j < 32 → lt' j = lt j) : WR sz lt' u := ⟨h.1, h.2.1, fun i hi => by rw [hl i (by have := h.2.1; omega), h.2.2 i hi]⟩
theorem s_become9 {sz sz2 : Int32} {lt lt2 : Nat → Int32} {K : Int32 → (Nat → Int32) → Prop} (hK : ∀ lt', (∀ j, j < 32 → lt' j = lt2 j) → K sz2 lt') : wp_X9_become sz lt sz2 lt2 K := by
  refine for_X9_become_L10 _ _ 32 (fun i l => ∀ j, j < i → l j = lt2 j) ?_ ?_ 0 _ _ rfl (Nat.zero_le _) (fun j hj => absurd hj (Nat.not_lt_zero _))
  · intro again i l hi hJ hag
    unfold wp_X9_become_L10
    try simp (disch := omega) only [k_0, k_1, k_2, k_3, k_4, k_6, k_7, k_10, k_11, k_12, k_13, k_14, k_16, k_32, k_36, k_40, k_41, k_42, k_43, k_49, k_64, k_80, k_96, k_97, k_100, k_109, k_110, k_127, k_128, k_146, k_147, k_160, k_2304, k_4608, k_13824, nI_add, pk_mul, pk_sub, nI_clamp, q_in, nI_ltI, nI_leI, nI_eq, forall_eq, e_shl, e_bit, e_b0, e_b1, e_bn, e_andn, fa_or, fa_and, e_m1, e_nneg]
    repeat (first | refine And.intro (fun hh => absurd hh (by omega)) (fun _ => ?_) | refine And.intro (fun _ => ?_) (fun hh => absurd hh (by omega)) | refine And.intro (by omega) ?_)
    refine hag _ (fun j hj => ?_)
    by_cases ej : j = i
    · subst ej; exact pk_us
    · rw [pk_un ej]; exact hJ j (by omega)
  · intro again l hJ
    unfold wp_X9_become_L10
    try simp (disch := omega) only [k_0, k_1, k_2, k_3, k_4, k_6, k_7, k_10, k_11, k_12, k_13, k_14, k_16, k_32, k_36, k_40, k_41, k_42, k_43, k_49, k_64, k_80, k_96, k_97, k_100, k_109, k_110, k_127, k_128, k_146, k_147, k_160, k_2304, k_4608, k_13824, nI_add, pk_mul, pk_sub, nI_clamp, q_in, nI_ltI, nI_leI, nI_eq, forall_eq, e_shl, e_bit, e_b0, e_b1, e_bn, e_andn, fa_or, fa_and, e_m1, e_nneg]
    repeat (first | refine And.intro (fun hh => absurd hh (by omega)) (fun _ => ?_) | refine And.intro (fun _ => ?_) (fun hh => absurd hh (by omega)) | refine And.intro (by omega) ?_)
    exact hK _ hJ
/-! letters and which are free of one another -/
def FR (k : Nat) (fr : Nat → Nat) : Prop := 2 ≤ k ∧ k ≤ 6 ∧ (∀ x, fr x < 2 ^ k) ∧ (∀ x y, (fr x).testBit y = (fr y).testBit x) ∧ ∀ x, (fr x).testBit x = false
def ind (fr : Nat → Nat) (a b : Nat) : Bool := (fr a).testBit b
theorem FR.irr {k : Nat} {fr : Nat → Nat} (h : FR k fr) : ∀ a, ind fr a a = false := h.2.2.2.2
theorem FR.sym {k : Nat} {fr : Nat → Nat} (h : FR k fr) : ∀ a b, ind fr a b = ind fr b a := h.2.2.2.1
theorem FR.lt6 {k : Nat} {fr : Nat → Nat} (h : FR k fr) (x : Nat) : fr x < 64 := Nat.lt_of_lt_of_le (h.2.2.1 x) (Nat.pow_le_pow_right (by decide) h.2.1)
def frees (fr : Nat → Nat) (a b : Nat) (on : Bool) : Nat → Nat := fun x => if x = a then (if on then fr x ||| 2 ^ b else andn (fr x) (2 ^ b)) else fr x
def setI (fr : Nat → Nat) (a b : Nat) (on : Bool) : Nat → Nat := frees (frees fr a b on) b a on
theorem frees_bit (fr : Nat → Nat) (a b : Nat) (on : Bool) (x y : Nat) : (frees fr a b on x).testBit y = if x = a ∧ y = b then on else (fr x).testBit y := by
  unfold frees
  by_cases hx : x = a
  · rw [if_pos hx]
    cases on with
    | true =>
      rw [if_pos rfl, tb_or2]
      by_cases hy : y = b <;> simp [hx, hy]
    | false =>
      rw [if_neg (by decide), andn_bit, Nat.testBit_two_pow]
      by_cases hy : y = b
      · simp [hx, hy]
      · have : ¬ b = y := fun e => hy e.symm
        simp [hx, hy, this]
  · rw [if_neg hx]
    simp [hx]
theorem setI_bit (fr : Nat → Nat) {a b : Nat} (hab : a ≠ b) (on : Bool) (x y : Nat) : (setI fr a b on x).testBit y = if (x = a ∧ y = b) ∨ (x = b ∧ y = a) then on else (fr x).testBit y := by
  unfold setI
  rw [frees_bit, frees_bit]
  by_cases h1 : x = b ∧ y = a
  · rw [if_pos h1, if_pos (Or.inr h1)]
  · rw [if_neg h1]
    by_cases h2 : x = a ∧ y = b
    · rw [if_pos h2, if_pos (Or.inl h2)]
    · rw [if_neg h2, if_neg (by rintro (q | q); exact h2 q; exact h1 q)]
theorem FR.set {k : Nat} {fr : Nat → Nat} (h : FR k fr) {a b : Nat} (ha : a < k) (hb : b < k) (hab : a ≠ b) (on : Bool) : FR k (setI fr a b on) := by
  refine ⟨h.1, h.2.1, fun x => tb_lt (fun y hy => ?_), fun x y => ?_, fun x => ?_⟩
  · rw [setI_bit fr hab] at hy
    split at hy
    · rename_i q
      rcases q with ⟨-, q⟩ | ⟨-, q⟩ <;> omega
    · exact tb_of_lt (h.2.2.1 x) hy
  · rw [setI_bit fr hab, setI_bit fr hab, h.2.2.2.1 x y]
    by_cases q : (x = a ∧ y = b) ∨ (x = b ∧ y = a)
    · rw [if_pos q, if_pos (by rcases q with q | q; exact Or.inr ⟨q.2, q.1⟩; exact Or.inl ⟨q.2, q.1⟩)]
    · rw [if_neg q, if_neg (by rintro (q2 | q2); exact q (Or.inr ⟨q2.2, q2.1⟩); exact q (Or.inl ⟨q2.2, q2.1⟩))]
  · rw [setI_bit fr hab, if_neg (by rintro (⟨q, q2⟩ | ⟨q, q2⟩) <;> omega)]
    exact h.2.2.2.2 x
def FA (free : Nat → Int32) (fr : Nat → Nat) : Prop := ∀ j, j < 6 → free j = nI (fr j)
theorem s_has {k j : Nat} (hk : k ≤ 6) (hj : j < k) {K : Int32 → Prop} (hK : K 1) : wp_X0_has (nI k) (nI j) K := by
  unfold wp_X0_has
  try simp (disch := omega) only [k_0, k_1, k_2, k_3, k_4, k_6, k_7, k_10, k_11, k_12, k_13, k_14, k_16, k_32, k_36, k_40, k_41, k_42, k_43, k_49, k_64, k_80, k_96, k_97, k_100, k_109, k_110, k_127, k_128, k_146, k_147, k_160, k_2304, k_4608, k_13824, nI_add, pk_mul, pk_sub, nI_clamp, q_in, nI_ltI, nI_leI, nI_eq, forall_eq, e_shl, e_bit, e_b0, e_b1, e_bn, e_andn, fa_or, fa_and, e_m1, e_nneg]
  repeat (first | refine And.intro (fun hh => absurd hh (by omega)) (fun _ => ?_) | refine And.intro (fun _ => ?_) (fun hh => absurd hh (by omega)) | refine And.intro (by omega) ?_)
  exact hK
theorem s_hasN {k : Nat} {x : Int32} (hk : k ≤ 6) (hj : ¬ ∃ j, j < k ∧ x = nI j) {K : Int32 → Prop} (hK : K 0) : wp_X0_has (nI k) x K := by
  unfold wp_X0_has
  refine ⟨fun _ => hK, fun h0 => ⟨fun _ => hK, fun h1 => ?_⟩⟩
  rcases in_not (by omega) hj with q | q
  · exact absurd q h0
  · exact absurd q h1
theorem s_freeOf {free : Nat → Int32} {fr : Nat → Nat} (hf : FA free fr) {j : Nat} (hj : j < 6) {K : Int32 → Prop} (hK : K (nI (fr j))) : wp_X0_freeOf free (nI j) K := by
  unfold wp_X0_freeOf
  try simp (disch := omega) only [k_0, k_1, k_2, k_3, k_4, k_6, k_7, k_10, k_11, k_12, k_13, k_14, k_16, k_32, k_36, k_40, k_41, k_42, k_43, k_49, k_64, k_80, k_96, k_97, k_100, k_109, k_110, k_127, k_128, k_146, k_147, k_160, k_2304, k_4608, k_13824, nI_add, pk_mul, pk_sub, nI_clamp, q_in, nI_ltI, nI_leI, nI_eq, forall_eq, e_shl, e_bit, e_b0, e_b1, e_bn, e_andn, fa_or, fa_and, e_m1, e_nneg]
  repeat (first | refine And.intro (fun hh => absurd hh (by omega)) (fun _ => ?_) | refine And.intro (fun _ => ?_) (fun hh => absurd hh (by omega)) | refine And.intro (by omega) ?_)
  rw [hf j hj]; exact hK
theorem s_areFree {free : Nat → Int32} {fr : Nat → Nat} {k : Nat} (hf : FA free fr) (hk : k ≤ 6) {a b : Nat} (ha : a < 6) (hb : b < k) {K : Int32 → Prop} (hK : K (bI (ind fr a b))) : wp_X0_areFree (nI k) free (nI a) (nI b) K := by
  unfold wp_X0_areFree
  refine s_has hk hb (br_f (by decide) (s_freeOf hf ha ?_))
  try simp (disch := omega) only [k_0, k_1, k_2, k_3, k_4, k_6, k_7, k_10, k_11, k_12, k_13, k_14, k_16, k_32, k_36, k_40, k_41, k_42, k_43, k_49, k_64, k_80, k_96, k_97, k_100, k_109, k_110, k_127, k_128, k_146, k_147, k_160, k_2304, k_4608, k_13824, nI_add, pk_mul, pk_sub, nI_clamp, q_in, nI_ltI, nI_leI, nI_eq, forall_eq, e_shl, e_bit, e_b0, e_b1, e_bn, e_andn, fa_or, fa_and, e_m1, e_nneg]
  unfold ind at hK
  refine ⟨fun h => ?_, fun h => ?_⟩
  · rw [h] at hK; exact hK
  · rw [h] at hK; exact hK
theorem FA_frees {free : Nat → Int32} {fr : Nat → Nat} (hf : FA free fr) {a b : Nat} (ha : a < 6) (on : Bool) : FA (upd free a (if on then nI (fr a) ||| nI (2 ^ b) else nI (fr a) &&& (nI (2 ^ b) ^^^ (-1)))) (frees fr a b on) := by
  intro j hj
  unfold frees
  by_cases e : j = a
  · subst e
    rw [pk_us, if_pos rfl]
    cases on with
    | true => rw [if_pos rfl, if_pos rfl, fa_or]
    | false => rw [if_neg (by decide), if_neg (by decide), q_andn]
  · rw [pk_un e, if_neg e]; exact hf j hj
theorem s_join {free : Nat → Int32} {fr : Nat → Nat} {k : Nat} (hf : FA free fr) (hk : k ≤ 6) {a b : Nat} (ha : a < k) (hb : b < k) (hab : a ≠ b) (on : Bool) {K : (Nat → Int32) → Prop} (hK : ∀ free', FA free' (setI fr a b on) → K free') : wp_X0_join (nI k) free (nI a) (nI b) (bI on) K := by
  unfold wp_X0_join
  refine s_has hk ha (br_f (by decide) (s_has hk hb (br_f (by decide) ?_)))
  refine ⟨fun _ => ?_, fun e => absurd ((nI_eq (by omega) (by omega)).mp e) hab⟩
  have h1 := FA_frees hf (a := a) (b := b) (by omega) on
  have h2 := FA_frees h1 (a := b) (b := a) (by omega) on
  have e1 : ∀ c, c < 6 → (nI c).toNatClampNeg = c := fun c hc => nI_clamp (by omega)
  rw [e1 a (by omega), e1 b (by omega), q_shl a (by omega), q_shl b (by omega), hf a (by omega)]
  have ea : vp_in (nI a) 6 := vp_in_nI (by omega) (by decide)
  have eb : vp_in (nI b) 6 := vp_in_nI (by omega) (by decide)
  have e2 := h1 b (by omega)
  cases on with
  | true =>
    refine br_f (by decide) ⟨ea, ea, eb, eb, ?_⟩
    rw [if_pos rfl] at h1 h2 e2
    rw [e2]
    rw [if_pos rfl] at h2
    exact hK _ h2
  | false =>
    refine br_t (by decide) ⟨ea, ea, eb, eb, ?_⟩
    rw [if_neg (by decide)] at h1 h2 e2
    rw [e2]
    rw [if_neg (by decide)] at h2
    exact hK _ h2
theorem s_begin0 {cnt : Int32} {free : Nat → Int32} {k : Nat} {K : Int32 → (Nat → Int32) → Prop} (hK : ∀ free', FA free' (fun _ => 0) → K (nI k) free') : wp_X0_begin cnt free (nI k) K := by
  unfold wp_X0_begin
  exact s_fill (by decide) _ _ (fun p' h => hK _ h)
theorem s_become0 {cnt cnt2 : Int32} {free free2 : Nat → Int32} {K : Int32 → (Nat → Int32) → Prop} (hK : ∀ f', (∀ j, j < 6 → f' j = free2 j) → K cnt2 f') : wp_X0_become cnt free cnt2 free2 K := by
  refine for_X0_become_L10 _ _ 6 (fun i l => ∀ j, j < i → l j = free2 j) ?_ ?_ 0 _ _ rfl (Nat.zero_le _) (fun j hj => absurd hj (Nat.not_lt_zero _))
  · intro again i l hi hJ hag
    unfold wp_X0_become_L10
    try simp (disch := omega) only [k_0, k_1, k_2, k_3, k_4, k_6, k_7, k_10, k_11, k_12, k_13, k_14, k_16, k_32, k_36, k_40, k_41, k_42, k_43, k_49, k_64, k_80, k_96, k_97, k_100, k_109, k_110, k_127, k_128, k_146, k_147, k_160, k_2304, k_4608, k_13824, nI_add, pk_mul, pk_sub, nI_clamp, q_in, nI_ltI, nI_leI, nI_eq, forall_eq, e_shl, e_bit, e_b0, e_b1, e_bn, e_andn, fa_or, fa_and, e_m1, e_nneg]
    repeat (first | refine And.intro (fun hh => absurd hh (by omega)) (fun _ => ?_) | refine And.intro (fun _ => ?_) (fun hh => absurd hh (by omega)) | refine And.intro (by omega) ?_)
    refine hag _ (fun j hj => ?_)
    by_cases ej : j = i
    · subst ej; exact pk_us
    · rw [pk_un ej]; exact hJ j (by omega)
  · intro again l hJ
    unfold wp_X0_become_L10
    try simp (disch := omega) only [k_0, k_1, k_2, k_3, k_4, k_6, k_7, k_10, k_11, k_12, k_13, k_14, k_16, k_32, k_36, k_40, k_41, k_42, k_43, k_49, k_64, k_80, k_96, k_97, k_100, k_109, k_110, k_127, k_128, k_146, k_147, k_160, k_2304, k_4608, k_13824, nI_add, pk_mul, pk_sub, nI_clamp, q_in, nI_ltI, nI_leI, nI_eq, forall_eq, e_shl, e_bit, e_b0, e_b1, e_bn, e_andn, fa_or, fa_and, e_m1, e_nneg]
    repeat (first | refine And.intro (fun hh => absurd hh (by omega)) (fun _ => ?_) | refine And.intro (fun _ => ?_) (fun hh => absurd hh (by omega)) | refine And.intro (by omega) ?_)
    exact hK _ hJ
