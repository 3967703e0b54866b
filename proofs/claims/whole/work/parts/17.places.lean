/-! places: what is laid of a word -/
def plc (u : List Nat) (x n : Nat) : Nat := fld (fun i s => if u.getD i 0 = x then s ||| 2 ^ i else s) 0 n
def needN (fr : Nat → Nat) (u : List Nat) (i n : Nat) : Nat := fld (fun p s => if ind fr (u.getD i 0) (u.getD p 0) then s else s ||| 2 ^ p) 0 n
def hgS (fr : Nat → Nat) (u : List Nat) (h : Nat → Nat) (i n : Nat) : Nat := fld (fun p s => if ind fr (u.getD i 0) (u.getD p 0) then s else if s < h p + 1 then h p + 1 else s) 0 n
def hN (fr : Nat → Nat) (u : List Nat) : Nat → Nat → Nat
  | 0 => fun _ => 0
  | n + 1 => fun j => if j = n then hgS fr u (hN fr u n) n n else hN fr u n j
theorem plc_s (u : List Nat) (x n : Nat) : plc u x (n + 1) = if u.getD n 0 = x then plc u x n ||| 2 ^ n else plc u x n := rfl
theorem needN_s (fr : Nat → Nat) (u : List Nat) (i n : Nat) : needN fr u i (n + 1) = if ind fr (u.getD i 0) (u.getD n 0) then needN fr u i n else needN fr u i n ||| 2 ^ n := rfl
theorem hgS_s (fr : Nat → Nat) (u : List Nat) (h : Nat → Nat) (i n : Nat) : hgS fr u h i (n + 1) = if ind fr (u.getD i 0) (u.getD n 0) then hgS fr u h i n else if hgS fr u h i n < h n + 1 then h n + 1 else hgS fr u h i n := rfl
theorem hN_s (fr : Nat → Nat) (u : List Nat) (n j : Nat) : hN fr u (n + 1) j = if j = n then hgS fr u (hN fr u n) n n else hN fr u n j := rfl
theorem plc_bit (u : List Nat) (x j : Nat) : ∀ n, (plc u x n).testBit j = true ↔ j < n ∧ u.getD j 0 = x
  | 0 => by
    constructor
    · intro h; simp [plc, fld] at h
    · rintro ⟨hi, -⟩; exact absurd hi (Nat.not_lt_zero _)
  | n + 1 => by
    rw [plc_s]
    split
    · rename_i e
      rw [tb_or2, Bool.or_eq_true, plc_bit u x j n, decide_eq_true_eq]
      constructor
      · rintro (⟨a, b⟩ | a)
        · exact ⟨by omega, b⟩
        · subst a; exact ⟨by omega, e⟩
      · rintro ⟨a, b⟩
        by_cases q : j = n
        · exact Or.inr q
        · exact Or.inl ⟨by omega, b⟩
    · rename_i e
      rw [plc_bit u x j n]
      constructor
      · rintro ⟨a, b⟩; exact ⟨by omega, b⟩
      · rintro ⟨a, b⟩
        by_cases q : j = n
        · subst q; exact absurd b e
        · exact ⟨by omega, b⟩
theorem needN_bit (fr : Nat → Nat) (u : List Nat) (i j : Nat) : ∀ n, (needN fr u i n).testBit j = true ↔ j < n ∧ ind fr (u.getD i 0) (u.getD j 0) = false
  | 0 => by
    constructor
    · intro h; simp [needN, fld] at h
    · rintro ⟨hi, -⟩; exact absurd hi (Nat.not_lt_zero _)
  | n + 1 => by
    rw [needN_s]
    split
    · rename_i e
      rw [needN_bit fr u i j n]
      constructor
      · rintro ⟨a, b⟩; exact ⟨by omega, b⟩
      · rintro ⟨a, b⟩
        by_cases q : j = n
        · subst q; rw [e] at b; cases b
        · exact ⟨by omega, b⟩
    · rename_i e
      rw [tb_or2, Bool.or_eq_true, needN_bit fr u i j n, decide_eq_true_eq]
      constructor
      · rintro (⟨a, b⟩ | a)
        · exact ⟨by omega, b⟩
        · subst a
          refine ⟨by omega, ?_⟩
          cases h : ind fr (u.getD i 0) (u.getD j 0) with
          | false => rfl
          | true => exact absurd h e
      · rintro ⟨a, b⟩
        by_cases q : j = n
        · exact Or.inr q
        · exact Or.inl ⟨by omega, b⟩
theorem hgS_le (fr : Nat → Nat) (u : List Nat) (h : Nat → Nat) (i : Nat) : ∀ n, (∀ p, p < n → h p ≤ p) → hgS fr u h i n ≤ n
  | 0, _ => Nat.le_refl 0
  | n + 1, q => by
    have h1 := hgS_le fr u h i n (fun p hp => q p (by omega))
    have h2 := q n (by omega)
    rw [hgS_s]
    split
    · omega
    · split <;> omega
theorem hN_le (fr : Nat → Nat) (u : List Nat) : ∀ n j, hN fr u n j ≤ j
  | 0, j => Nat.zero_le _
  | n + 1, j => by
    rw [hN_s]
    split
    · rename_i e
      subst e
      exact hgS_le _ _ _ _ _ (fun p _ => hN_le fr u j p)
    · exact hN_le fr u n j
def PL (fr : Nat → Nat) (u : List Nat) (n : Nat) (lA yA bA pA : Nat → Int32) : Prop := (∀ i, i < n → lA i = nI (u.getD i 0)) ∧ (∀ i, i < n → yA i = nI (hN fr u n i)) ∧ (∀ i, i < n → bA i = nI (needN fr u i i)) ∧ ∀ x, x < 6 → pA x = nI (plc u x n)
theorem s_layLetter {free lA yA bA pA : Nat → Int32} {fr : Nat → Nat} {k : Nat} (hf : FA free fr) (hk : k ≤ 6) {u : List Nat} (hu : ∀ x ∈ u, x < k) {n : Nat} (hn : n < u.length) (h32 : u.length ≤ 32) (hP : PL fr u n lA yA bA pA) {K : Int32 → (Nat → Int32) → (Nat → Int32) → (Nat → Int32) → (Nat → Int32) → Prop} (hK : ∀ a b c d, PL fr u (n + 1) a b c d → K (nI (n + 1)) a b c d) : wp_X3_layLetter (nI n) lA yA bA pA (nI k) free (nI (u.getD n 0)) K := by
  have hx := hu _ (getD_mem hn)
  have hg : ∀ p, p < n → u.getD p 0 < k := fun p hp => hu _ (getD_mem (by omega))
  unfold wp_X3_layLetter
  refine s_has hk hx (br_f (by decide) ?_)
  try simp (disch := omega) only [k_0, k_1, k_2, k_3, k_4, k_6, k_7, k_10, k_11, k_12, k_13, k_14, k_16, k_32, k_36, k_40, k_41, k_42, k_43, k_49, k_64, k_80, k_96, k_97, k_100, k_109, k_110, k_127, k_128, k_146, k_147, k_160, k_2304, k_4608, k_13824, nI_add, pk_mul, pk_sub, nI_clamp, q_in, nI_ltI, nI_leI, nI_eq, forall_eq, e_shl, e_bit, e_b0, e_b1, e_bn, e_andn, fa_or, fa_and, e_m1, e_nneg]
  repeat (first | refine And.intro (fun hh => absurd hh (by omega)) (fun _ => ?_) | refine And.intro (fun _ => ?_) (fun hh => absurd hh (by omega)) | refine And.intro (by omega) ?_)
  refine s_freeOf hf (by omega) ?_
  obtain ⟨h1, h2, h3, h4⟩ := hP
  refine for_X3_layLetter_L40 _ _ _ _ _ n (fun i a b => a = nI (needN fr u n i) ∧ b = nI (hgS fr u (hN fr u n) n i)) ?_ ?_ 0 _ _ _ rfl (Nat.zero_le _) ⟨rfl, rfl⟩
  · rintro again i a b hi ⟨rfl, rfl⟩ hag
    have hgi := hg i hi
    have hle := hgS_le fr u (hN fr u n) n i (fun p _ => hN_le fr u n p)
    have hle2 := hN_le fr u n i
    unfold wp_X3_layLetter_L40
    try simp (disch := omega) only [k_0, k_1, k_2, k_3, k_4, k_6, k_7, k_10, k_11, k_12, k_13, k_14, k_16, k_32, k_36, k_40, k_41, k_42, k_43, k_49, k_64, k_80, k_96, k_97, k_100, k_109, k_110, k_127, k_128, k_146, k_147, k_160, k_2304, k_4608, k_13824, nI_add, pk_mul, pk_sub, nI_clamp, q_in, nI_ltI, nI_leI, nI_eq, forall_eq, e_shl, e_bit, e_b0, e_b1, e_bn, e_andn, fa_or, fa_and, e_m1, e_nneg]
    repeat (first | refine And.intro (fun hh => absurd hh (by omega)) (fun _ => ?_) | refine And.intro (fun _ => ?_) (fun hh => absurd hh (by omega)) | refine And.intro (by omega) ?_)
    rw [h1 i hi, h2 i hi]
    try simp (disch := omega) only [k_0, k_1, k_2, k_3, k_4, k_6, k_7, k_10, k_11, k_12, k_13, k_14, k_16, k_32, k_36, k_40, k_41, k_42, k_43, k_49, k_64, k_80, k_96, k_97, k_100, k_109, k_110, k_127, k_128, k_146, k_147, k_160, k_2304, k_4608, k_13824, nI_add, pk_mul, pk_sub, nI_clamp, q_in, nI_ltI, nI_leI, nI_eq, forall_eq, e_shl, e_bit, e_b0, e_b1, e_bn, e_andn, fa_or, fa_and, e_m1, e_nneg]
    rw [needN_s, hgS_s] at hag
    refine ⟨fun hb => ?_, fun hb => ⟨by omega, ?_⟩⟩
    · rw [show ind fr (u.getD n 0) (u.getD i 0) = true from hb, if_pos rfl, if_pos rfl] at hag
      exact hag _ _ ⟨rfl, rfl⟩
    · rw [show ind fr (u.getD n 0) (u.getD i 0) = false from hb, if_neg (by decide), if_neg (by decide)] at hag
      refine hag _ _ ⟨rfl, ?_⟩
      split <;> rfl
  · rintro again a b ⟨rfl, rfl⟩
    unfold wp_X3_layLetter_L40
    try simp (disch := omega) only [k_0, k_1, k_2, k_3, k_4, k_6, k_7, k_10, k_11, k_12, k_13, k_14, k_16, k_32, k_36, k_40, k_41, k_42, k_43, k_49, k_64, k_80, k_96, k_97, k_100, k_109, k_110, k_127, k_128, k_146, k_147, k_160, k_2304, k_4608, k_13824, nI_add, pk_mul, pk_sub, nI_clamp, q_in, nI_ltI, nI_leI, nI_eq, forall_eq, e_shl, e_bit, e_b0, e_b1, e_bn, e_andn, fa_or, fa_and, e_m1, e_nneg]
    repeat (first | refine And.intro (fun hh => absurd hh (by omega)) (fun _ => ?_) | refine And.intro (fun _ => ?_) (fun hh => absurd hh (by omega)) | refine And.intro (by omega) ?_)
    unfold wp_X3_layLetter_J101
    try simp (disch := omega) only [k_0, k_1, k_2, k_3, k_4, k_6, k_7, k_10, k_11, k_12, k_13, k_14, k_16, k_32, k_36, k_40, k_41, k_42, k_43, k_49, k_64, k_80, k_96, k_97, k_100, k_109, k_110, k_127, k_128, k_146, k_147, k_160, k_2304, k_4608, k_13824, nI_add, pk_mul, pk_sub, nI_clamp, q_in, nI_ltI, nI_leI, nI_eq, forall_eq, e_shl, e_bit, e_b0, e_b1, e_bn, e_andn, fa_or, fa_and, e_m1, e_nneg]
    repeat (first | refine And.intro (fun hh => absurd hh (by omega)) (fun _ => ?_) | refine And.intro (fun _ => ?_) (fun hh => absurd hh (by omega)) | refine And.intro (by omega) ?_)
    rw [h4 _ (by omega)]
    try simp (disch := omega) only [k_0, k_1, k_2, k_3, k_4, k_6, k_7, k_10, k_11, k_12, k_13, k_14, k_16, k_32, k_36, k_40, k_41, k_42, k_43, k_49, k_64, k_80, k_96, k_97, k_100, k_109, k_110, k_127, k_128, k_146, k_147, k_160, k_2304, k_4608, k_13824, nI_add, pk_mul, pk_sub, nI_clamp, q_in, nI_ltI, nI_leI, nI_eq, forall_eq, e_shl, e_bit, e_b0, e_b1, e_bn, e_andn, fa_or, fa_and, e_m1, e_nneg]
    refine hK _ _ _ _ ⟨fun i hi => ?_, fun i hi => ?_, fun i hi => ?_, fun x hx => ?_⟩
    · by_cases e : i = n
      · subst e; exact pk_us
      · rw [pk_un e]; exact h1 i (by omega)
    · rw [hN_s]
      by_cases e : i = n
      · subst e; rw [pk_us, if_pos rfl]
      · rw [pk_un e, if_neg e]; exact h2 i (by omega)
    · by_cases e : i = n
      · subst e; exact pk_us
      · rw [pk_un e]; exact h3 i (by omega)
    · rw [plc_s]
      by_cases e : u.getD n 0 = x
      · subst e; rw [pk_us, if_pos rfl]
      · rw [pk_un (fun q => e q.symm), if_neg e]; exact h4 x hx
theorem s_lay {pl ps pt : Int32} {free lA yA bA pA lt : Nat → Int32} {fr : Nat → Nat} {k : Nat} (hf : FA free fr) (hk : k ≤ 6) {u : List Nat} (hW : WR (nI u.length) lt u) (hu : ∀ x ∈ u, x < k) {K : Int32 → Int32 → Int32 → (Nat → Int32) → (Nat → Int32) → (Nat → Int32) → (Nat → Int32) → Prop} (hK : ∀ a b c d, PL fr u u.length a b c d → K (nI k) (nI u.length) (nI 0) a b c d) : wp_X3_lay pl ps pt lA yA bA pA (nI k) free (nI u.length) lt K := by
  have h32 := hW.2.1
  unfold wp_X3_lay
  refine s_fill (by decide) _ _ (fun p' hp' => ?_)
  refine for_X3_lay_L28 _ _ _ _ _ u.length (fun i s a b c d => s = nI i ∧ PL fr u i a b c d) ?_ ?_ 0 _ _ _ _ _ _ rfl (Nat.zero_le _) ⟨rfl, fun i hi => absurd hi (Nat.not_lt_zero _), fun i hi => absurd hi (Nat.not_lt_zero _), fun i hi => absurd hi (Nat.not_lt_zero _), fun x hx => hp' x hx⟩
  · rintro again i s a b c d hi ⟨rfl, hP⟩ hag
    unfold wp_X3_lay_L28
    try simp (disch := omega) only [k_0, k_1, k_2, k_3, k_4, k_6, k_7, k_10, k_11, k_12, k_13, k_14, k_16, k_32, k_36, k_40, k_41, k_42, k_43, k_49, k_64, k_80, k_96, k_97, k_100, k_109, k_110, k_127, k_128, k_146, k_147, k_160, k_2304, k_4608, k_13824, nI_add, pk_mul, pk_sub, nI_clamp, q_in, nI_ltI, nI_leI, nI_eq, forall_eq, e_shl, e_bit, e_b0, e_b1, e_bn, e_andn, fa_or, fa_and, e_m1, e_nneg]
    repeat (first | refine And.intro (fun hh => absurd hh (by omega)) (fun _ => ?_) | refine And.intro (fun _ => ?_) (fun hh => absurd hh (by omega)) | refine And.intro (by omega) ?_)
    refine s_at hW hi (s_layLetter hf hk hu hi h32 hP (fun a b c d h => ?_))
    exact hag _ _ _ _ _ ⟨rfl, h⟩
  · rintro again s a b c d ⟨rfl, hP⟩
    unfold wp_X3_lay_L28
    try simp (disch := omega) only [k_0, k_1, k_2, k_3, k_4, k_6, k_7, k_10, k_11, k_12, k_13, k_14, k_16, k_32, k_36, k_40, k_41, k_42, k_43, k_49, k_64, k_80, k_96, k_97, k_100, k_109, k_110, k_127, k_128, k_146, k_147, k_160, k_2304, k_4608, k_13824, nI_add, pk_mul, pk_sub, nI_clamp, q_in, nI_ltI, nI_leI, nI_eq, forall_eq, e_shl, e_bit, e_b0, e_b1, e_bn, e_andn, fa_or, fa_and, e_m1, e_nneg]
    repeat (first | refine And.intro (fun hh => absurd hh (by omega)) (fun _ => ?_) | refine And.intro (fun _ => ?_) (fun hh => absurd hh (by omega)) | refine And.intro (by omega) ?_)
    exact hK _ _ _ _ hP
/-! taking away -/
def tb (T : Nat) : Nat → Bool := fun j => T.testBit j
def TK (u : List Nat) (T : Nat) (r : List Nat) : Prop := T < 2 ^ u.length ∧ rem u (tb T) = r
theorem TK.start (u : List Nat) : TK u 0 u := ⟨Nat.two_pow_pos _, rem_none u _ (fun j _ => by simp [tb])⟩
theorem tb_set (T i : Nat) : tb (T ||| 2 ^ i) = setT (tb T) i := by
  funext j
  show (T ||| 2 ^ i).testBit j = _
  rw [tb_or2]
  rfl
theorem TK.take {fr : Nat → Nat} (irr : ∀ a, ind fr a a = false) {u : List Nat} {T : Nat} {r : List Nat} (h : TK u T r) {x i : Nat} (hn : isNx (ind fr) u (tb T) x i) : ∃ r', rmv (ind fr) x r = some r' ∧ TK u (T ||| 2 ^ i) r' := by
  refine ⟨rem u (setT (tb T) i), ?_, or2_lt h.1 hn.1, by rw [tb_set]⟩
  rw [← h.2]
  exact rem_nx irr u _ x i hn
theorem s_nextPlace {bA pA : Nat → Int32} {fr : Nat → Nat} (irr : ∀ a, ind fr a a = false) (sym : ∀ a b, ind fr a b = ind fr b a) {u : List Nat} {lA yA : Nat → Int32} (hP : PL fr u u.length lA yA bA pA) (h32 : u.length ≤ 32) {T x : Nat} (hT : T < 2 ^ u.length) (hx : x < 6) {K : Int32 → Prop} (h1 : ∀ i, i < 32 → isNx (ind fr) u (tb T) x i → K (nI i)) (h2 : (∀ i, ¬ isNx (ind fr) u (tb T) x i) → K (-1)) : wp_X3_nextPlace (nI T) bA pA (nI x) K := by
  have hp : plc u x u.length < 2 ^ 32 := tb_lt (fun j hj => by have := ((plc_bit u x j _).mp hj).1; omega)
  have hop : andn (plc u x u.length) T < 2 ^ 32 := andn_lt hp
  have hfirst : ∀ i, isNx (ind fr) u (tb T) x i → (andn (plc u x u.length) T).testBit i = true ∧ ∀ j, j < i → (andn (plc u x u.length) T).testBit j = false := by
    intro i hi
    refine ⟨by rw [andn_bit, (plc_bit u x i _).mpr ⟨hi.1, hi.2.1⟩, show T.testBit i = false from hi.2.2.1]; rfl, fun j hj => tb_false (fun hb => ?_)⟩
    rw [andn_bit] at hb
    simp only [Bool.and_eq_true, Bool.not_eq_true'] at hb
    have h4 := hi.2.2.2 j hj hb.2
    rw [((plc_bit u x j _).mp hb.1).2, irr] at h4
    cases h4
  unfold wp_X3_nextPlace
  try simp (disch := omega) only [k_0, k_1, k_2, k_3, k_4, k_6, k_7, k_10, k_11, k_12, k_13, k_14, k_16, k_32, k_36, k_40, k_41, k_42, k_43, k_49, k_64, k_80, k_96, k_97, k_100, k_109, k_110, k_127, k_128, k_146, k_147, k_160, k_2304, k_4608, k_13824, nI_add, pk_mul, pk_sub, nI_clamp, q_in, nI_ltI, nI_leI, nI_eq, forall_eq, e_shl, e_bit, e_b0, e_b1, e_bn, e_andn, fa_or, fa_and, e_m1, e_nneg]
  repeat (first | refine And.intro (fun hh => absurd hh (by omega)) (fun _ => ?_) | refine And.intro (fun _ => ?_) (fun hh => absurd hh (by omega)) | refine And.intro (by omega) ?_)
  rw [hP.2.2.2 x hx]
  try simp (disch := omega) only [k_0, k_1, k_2, k_3, k_4, k_6, k_7, k_10, k_11, k_12, k_13, k_14, k_16, k_32, k_36, k_40, k_41, k_42, k_43, k_49, k_64, k_80, k_96, k_97, k_100, k_109, k_110, k_127, k_128, k_146, k_147, k_160, k_2304, k_4608, k_13824, nI_add, pk_mul, pk_sub, nI_clamp, q_in, nI_ltI, nI_leI, forall_eq, e_shl, e_bit, e_b0, e_b1, e_bn, e_andn, fa_or, fa_and, e_m1, e_nneg]
  refine ⟨fun hne => ?_, fun he => h2 (fun i hi => ?_)⟩
  · have h0 : andn (plc u x u.length) T ≠ 0 := fun e => hne (by rw [e])
    obtain ⟨t, ht, hb, hlow⟩ := lowb_ex hop h0
    have hb2 := hb
    rw [andn_bit] at hb2
    simp only [Bool.and_eq_true, Bool.not_eq_true'] at hb2
    have hpl := (plc_bit u x t _).mp hb2.1
    refine s_ntz hop hb hlow ?_
    try simp (disch := omega) only [k_0, k_1, k_2, k_3, k_4, k_6, k_7, k_10, k_11, k_12, k_13, k_14, k_16, k_32, k_36, k_40, k_41, k_42, k_43, k_49, k_64, k_80, k_96, k_97, k_100, k_109, k_110, k_127, k_128, k_146, k_147, k_160, k_2304, k_4608, k_13824, nI_add, pk_mul, pk_sub, nI_clamp, q_in, nI_ltI, nI_leI, forall_eq, e_shl, e_bit, e_b0, e_b1, e_bn, e_andn, fa_or, fa_and, e_m1, e_nneg]
    refine ⟨by omega, ?_⟩
    rw [hP.2.2.1 t hpl.1]
    have hnd : needN fr u t t < 2 ^ 32 := tb_lt (fun j hj => by have := ((needN_bit fr u t j t).mp hj).1; omega)
    try simp (disch := omega) only [k_0, k_1, k_2, k_3, k_4, k_6, k_7, k_10, k_11, k_12, k_13, k_14, k_16, k_32, k_36, k_40, k_41, k_42, k_43, k_49, k_64, k_80, k_96, k_97, k_100, k_109, k_110, k_127, k_128, k_146, k_147, k_160, k_2304, k_4608, k_13824, nI_add, pk_mul, pk_sub, nI_clamp, q_in, nI_ltI, nI_leI, forall_eq, e_shl, e_bit, e_b0, e_b1, e_bn, e_andn, fa_or, fa_and, e_m1, e_nneg]
    refine ⟨fun hc => h2 (fun i hi => ?_), fun hc => h1 t ht ⟨hpl.1, hpl.2, hb2.2, fun j hj hTj => ?_⟩⟩
    · obtain ⟨q1, q2⟩ := hfirst i hi
      have e : t = i := lowb_one hb hlow q1 q2
      subst e
      refine hc ?_
      congr 1
      rw [andn_zero]
      intro j hj
      have h5 := (needN_bit fr u t j t).mp hj
      cases hTj : T.testBit j with
      | true => rfl
      | false =>
        have h6 := hi.2.2.2 j h5.1 hTj
        rw [sym, ← hpl.2, h5.2] at h6
        cases h6
    · have h7 : andn (needN fr u t t) T = 0 := (q_inj (andn_lt hnd) (by decide)).mp hc
      rw [andn_zero] at h7
      cases hi : ind fr (u.getD j 0) x with
      | true => rfl
      | false =>
        have h8 := h7 j ((needN_bit fr u t j t).mpr ⟨hj, by rw [hpl.2, sym]; exact hi⟩)
        have h9 : T.testBit j = false := hTj
        rw [h8] at h9
        cases h9
  · have h3 : andn (plc u x u.length) T = 0 := (q_inj hop (by decide)).mp he
    have h4 := (hfirst i hi).1
    rw [h3] at h4
    simp at h4
theorem s_take {bA pA : Nat → Int32} {fr : Nat → Nat} (irr : ∀ a, ind fr a a = false) (sym : ∀ a b, ind fr a b = ind fr b a) {u : List Nat} {lA yA : Nat → Int32} (hP : PL fr u u.length lA yA bA pA) (h32 : u.length ≤ 32) {T x : Nat} {r : List Nat} (hT : TK u T r) (hx : x < 6) {K : Int32 → Int32 → Prop} (h1 : ∀ r' T', rmv (ind fr) x r = some r' → TK u T' r' → K 1 (nI T')) (h2 : rmv (ind fr) x r = none → K 0 (nI T)) : wp_X3_take (nI T) bA pA (nI x) K := by
  unfold wp_X3_take
  refine s_nextPlace irr sym hP h32 hT.1 hx (fun i hi hn => ?_) (fun hn => ?_)
  · try simp (disch := omega) only [k_0, k_1, k_2, k_3, k_4, k_6, k_7, k_10, k_11, k_12, k_13, k_14, k_16, k_32, k_36, k_40, k_41, k_42, k_43, k_49, k_64, k_80, k_96, k_97, k_100, k_109, k_110, k_127, k_128, k_146, k_147, k_160, k_2304, k_4608, k_13824, nI_add, pk_mul, pk_sub, nI_clamp, q_in, nI_ltI, nI_leI, forall_eq, e_shl, e_bit, e_b0, e_b1, e_bn, e_andn, fa_or, fa_and, e_m1, e_nneg]
    obtain ⟨r', e1, e2⟩ := hT.take irr hn
    exact ⟨fun _ => h1 r' _ e1 e2, fun q => absurd q id⟩
  · refine ⟨fun q => absurd rfl q, fun _ => h2 ?_⟩
    rw [← hT.2]
    exact rem_no u _ x hn
theorem s_takeAll {bA pA lt : Nat → Int32} {fr : Nat → Nat} (irr : ∀ a, ind fr a a = false) (sym : ∀ a b, ind fr a b = ind fr b a) {u w : List Nat} {lA yA : Nat → Int32} (hP : PL fr u u.length lA yA bA pA) (h32 : u.length ≤ 32) {T : Nat} {r : List Nat} (hT : TK u T r) (hW : WR (nI w.length) lt w) (hw : ∀ x ∈ w, x < 6) {K : Int32 → Int32 → Prop} (h1 : ∀ r' T', dvd (ind fr) w r = some r' → TK u T' r' → K 1 (nI T')) (h2 : ∀ r' T', dvd (ind fr) w r = none → TK u T' r' → K 0 (nI T')) : wp_X3_takeAll (nI T) bA pA (nI w.length) lt K := by
  have h33 := hW.2.1
  unfold wp_X3_takeAll
  refine for_X3_takeAll_L2 _ _ _ _ _ _ w.length (fun i t => ∃ T' r', t = nI T' ∧ TK u T' r' ∧ dvd (ind fr) w r = dvd (ind fr) (w.drop i) r') ?_ ?_ 0 _ _ rfl (Nat.zero_le _) ⟨T, r, rfl, hT, by simp⟩
  · rintro again i t hi ⟨T', r', rfl, hT', hd⟩ hag
    unfold wp_X3_takeAll_L2
    try simp (disch := omega) only [k_0, k_1, k_2, k_3, k_4, k_6, k_7, k_10, k_11, k_12, k_13, k_14, k_16, k_32, k_36, k_40, k_41, k_42, k_43, k_49, k_64, k_80, k_96, k_97, k_100, k_109, k_110, k_127, k_128, k_146, k_147, k_160, k_2304, k_4608, k_13824, nI_add, pk_mul, pk_sub, nI_clamp, q_in, nI_ltI, nI_leI, nI_eq, forall_eq, e_shl, e_bit, e_b0, e_b1, e_bn, e_andn, fa_or, fa_and, e_m1, e_nneg]
    repeat (first | refine And.intro (fun hh => absurd hh (by omega)) (fun _ => ?_) | refine And.intro (fun _ => ?_) (fun hh => absurd hh (by omega)) | refine And.intro (by omega) ?_)
    have e : w.drop i = w.getD i 0 :: w.drop (i + 1) := by
      rw [List.drop_eq_getElem_cons hi, List.getD_eq_getElem?_getD, List.getElem?_eq_getElem hi]
      rfl
    refine s_at hW hi (s_take irr sym hP h32 hT' (hw _ (getD_mem hi)) (fun r2 T2 e1 e2 => ?_) (fun e1 => ?_))
    · refine ⟨fun _ => ?_, fun q => absurd q (by decide)⟩
      try simp (disch := omega) only [k_0, k_1, k_2, k_3, k_4, k_6, k_7, k_10, k_11, k_12, k_13, k_14, k_16, k_32, k_36, k_40, k_41, k_42, k_43, k_49, k_64, k_80, k_96, k_97, k_100, k_109, k_110, k_127, k_128, k_146, k_147, k_160, k_2304, k_4608, k_13824, nI_add, pk_mul, pk_sub, nI_clamp, q_in, nI_ltI, nI_leI, nI_eq, forall_eq, e_shl, e_bit, e_b0, e_b1, e_bn, e_andn, fa_or, fa_and, e_m1, e_nneg]
      refine hag _ ⟨T2, r2, rfl, e2, ?_⟩
      rw [hd, e, dvd, e1]
    · refine ⟨fun q => absurd rfl q, fun _ => h2 r' T' ?_ hT'⟩
      rw [hd, e, dvd, e1]
  · rintro again t ⟨T', r', rfl, hT', hd⟩
    unfold wp_X3_takeAll_L2
    try simp (disch := omega) only [k_0, k_1, k_2, k_3, k_4, k_6, k_7, k_10, k_11, k_12, k_13, k_14, k_16, k_32, k_36, k_40, k_41, k_42, k_43, k_49, k_64, k_80, k_96, k_97, k_100, k_109, k_110, k_127, k_128, k_146, k_147, k_160, k_2304, k_4608, k_13824, nI_add, pk_mul, pk_sub, nI_clamp, q_in, nI_ltI, nI_leI, nI_eq, forall_eq, e_shl, e_bit, e_b0, e_b1, e_bn, e_andn, fa_or, fa_and, e_m1, e_nneg]
    repeat (first | refine And.intro (fun hh => absurd hh (by omega)) (fun _ => ?_) | refine And.intro (fun _ => ?_) (fun hh => absurd hh (by omega)) | refine And.intro (by omega) ?_)
    rw [List.drop_length] at hd
    exact h1 r' T' hd hT'
