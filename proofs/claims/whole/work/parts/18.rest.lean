/-! what is left: its length, its letters, its normal form -/
theorem tb_succ (T : Nat) : (fun j => tb T (j + 1)) = tb (T / 2) := by
  funext j
  show T.testBit (j + 1) = (T / 2).testBit j
  rw [Nat.testBit_succ]
theorem rem_pop : ∀ (u : List Nat) (T : Nat), (rem u (tb T)).length + pop T u.length = u.length
  | [], T => rfl
  | c :: u, T => by
    have ih := rem_pop u (T / 2)
    rw [rem_cons, tb_succ]
    show _ + (T % 2 + pop (T / 2) u.length) = u.length + 1
    have h0 : tb T 0 = decide (T % 2 = 1) := Nat.testBit_zero T
    rw [h0]
    rcases Nat.mod_two_eq_zero_or_one T with q | q
    · rw [q, if_neg (by decide), List.length_cons]
      omega
    · rw [q, if_pos (by decide)]
      omega
theorem pop_0 : ∀ f, pop 0 f = 0
  | 0 => rfl
  | f + 1 => by rw [pop, pop_0 f]
theorem pop_big {n a : Nat} (h : n < 2 ^ a) {f : Nat} (hf : a ≤ f) : pop n f = pop n a := by
  have e : f = a + (f - a) := by omega
  rw [e, pop_add, Nat.div_eq_of_lt h, pop_0]
  rfl
theorem TK.len {u : List Nat} {T : Nat} {r : List Nat} (h : TK u T r) (h16 : u.length ≤ 16) : r.length + pop T 16 = u.length := by
  rw [pop_big h.1 h16, ← h.2]
  exact rem_pop u T
theorem s_countRest {u : List Nat} {T : Nat} {r : List Nat} (h : TK u T r) (h16 : u.length ≤ 16) {K : Int32 → Prop} (hK : K (nI r.length)) : wp_X3_countRest (nI u.length) (nI T) K := by
  have hl := h.len h16
  have hT : T < 65536 := Nat.lt_of_lt_of_le h.1 (Nat.pow_le_pow_right (n := 2) (by decide) h16)
  unfold wp_X3_countRest
  refine s_bc hT ?_
  try simp (disch := omega) only [k_0, k_1, k_2, k_3, k_4, k_6, k_7, k_10, k_11, k_12, k_13, k_14, k_16, k_32, k_36, k_40, k_41, k_42, k_43, k_49, k_64, k_80, k_96, k_97, k_100, k_109, k_110, k_127, k_128, k_146, k_147, k_160, k_2304, k_4608, k_13824, nI_add, pk_mul, pk_sub, nI_clamp, q_in, nI_ltI, nI_leI, nI_eq, forall_eq, e_shl, e_bit, e_b0, e_b1, e_bn, e_andn, fa_or, fa_and, e_m1, e_nneg]
  rw [show u.length - pop T 16 = r.length by omega]
  exact hK
theorem s_allTaken {u : List Nat} {T : Nat} {r : List Nat} (h : TK u T r) (h16 : u.length ≤ 16) {K : Int32 → Prop} (hK : K (bI (decide (r = [])))) : wp_X3_allTaken (nI u.length) (nI T) K := by
  have hl := h.len h16
  unfold wp_X3_allTaken
  refine s_countRest h h16 ?_
  cases r with
  | nil => exact ⟨fun q => absurd rfl q, fun _ => hK⟩
  | cons y r =>
    refine ⟨fun _ => hK, fun q => ?_⟩
    rw [k_0, nI_eq (by omega) (by decide)] at q
    simp at q
theorem mem_rem : ∀ (u : List Nat) (T : Nat → Bool) (x : Nat), x ∈ rem u T ↔ ∃ i, i < u.length ∧ T i = false ∧ u.getD i 0 = x
  | [], T, x => by
    rw [rem_nil]
    constructor
    · intro h; exact absurd h List.not_mem_nil
    · rintro ⟨i, hi, -⟩; exact absurd hi (Nat.not_lt_zero _)
  | c :: u, T, x => by
    have ih := mem_rem u (fun j => T (j + 1)) x
    have key : (∃ i, i < (c :: u).length ∧ T i = false ∧ (c :: u).getD i 0 = x) ↔ (T 0 = false ∧ c = x) ∨ ∃ i, i < u.length ∧ T (i + 1) = false ∧ u.getD i 0 = x := by
      constructor
      · rintro ⟨i, hi, a, b⟩
        cases i with
        | zero => exact Or.inl ⟨a, b⟩
        | succ i => exact Or.inr ⟨i, by simpa using hi, a, by simpa using b⟩
      · rintro (⟨a, b⟩ | ⟨i, hi, a, b⟩)
        · exact ⟨0, by simp, a, b⟩
        · exact ⟨i + 1, by simpa using hi, a, by simpa using b⟩
    rw [key, rem_cons]
    cases h : T 0 with
    | true => rw [if_pos rfl, ih]; simp
    | false =>
      rw [if_neg (by decide), List.mem_cons, ih]
      constructor
      · rintro (q | q)
        · exact Or.inl ⟨rfl, q.symm⟩
        · exact Or.inr q
      · rintro (⟨-, q⟩ | q)
        · exact Or.inl q.symm
        · exact Or.inr q
theorem TK.mem {u : List Nat} {T : Nat} {r : List Nat} (h : TK u T r) {x : Nat} (hx : x ∈ r) : x ∈ u := by
  rw [← h.2, mem_rem] at hx
  obtain ⟨i, hi, -, e⟩ := hx
  rw [← e]
  exact getD_mem hi
theorem s_lettersOfRest {u : List Nat} {T : Nat} {r : List Nat} (h : TK u T r) (h32 : u.length ≤ 32) {k : Nat} (hk : k ≤ 6) {fr : Nat → Nat} {lA yA bA pA : Nat → Int32} (hP : PL fr u u.length lA yA bA pA) {K : Int32 → Prop} (hK : ∀ S, S < 2 ^ k → (∀ x, S.testBit x = true ↔ x < k ∧ x ∈ r) → K (nI S)) : wp_X3_lettersOfRest (nI k) (nI T) pA K := by
  unfold wp_X3_lettersOfRest
  refine for_X3_lettersOfRest_L4 _ _ _ _ k (fun i s => ∃ S, s = nI S ∧ ∀ x, S.testBit x = true ↔ x < i ∧ x ∈ r) ?_ ?_ 0 _ _ rfl (Nat.zero_le _) ⟨0, rfl, fun x => by simp⟩
  · rintro again i s hi ⟨S, rfl, hS⟩ hag
    have hp : plc u i u.length < 2 ^ 32 := tb_lt (fun j hj => by have := ((plc_bit u i j _).mp hj).1; omega)
    have hm : i ∈ r ↔ ¬ andn (plc u i u.length) T = 0 := by
      rw [← h.2, mem_rem, andn_zero]
      constructor
      · rintro ⟨j, a, b, c⟩ q
        have := q j ((plc_bit u i j _).mpr ⟨a, c⟩)
        rw [show T.testBit j = false from b] at this
        cases this
      · intro q
        apply Classical.byContradiction
        intro q2
        refine q (fun j hj => ?_)
        obtain ⟨a, b⟩ := (plc_bit u i j _).mp hj
        cases e : T.testBit j with
        | true => rfl
        | false => exact absurd ⟨j, a, e, b⟩ q2
    unfold wp_X3_lettersOfRest_L4
    try simp (disch := omega) only [k_0, k_1, k_2, k_3, k_4, k_6, k_7, k_10, k_11, k_12, k_13, k_14, k_16, k_32, k_36, k_40, k_41, k_42, k_43, k_49, k_64, k_80, k_96, k_97, k_100, k_109, k_110, k_127, k_128, k_146, k_147, k_160, k_2304, k_4608, k_13824, nI_add, pk_mul, pk_sub, nI_clamp, q_in, nI_ltI, nI_leI, nI_eq, forall_eq, e_shl, e_bit, e_b0, e_b1, e_bn, e_andn, fa_or, fa_and, e_m1, e_nneg]
    repeat (first | refine And.intro (fun hh => absurd hh (by omega)) (fun _ => ?_) | refine And.intro (fun _ => ?_) (fun hh => absurd hh (by omega)) | refine And.intro (by omega) ?_)
    rw [hP.2.2.2 i (by omega)]
    try simp (disch := omega) only [k_0, k_1, k_2, k_3, k_4, k_6, k_7, k_10, k_11, k_12, k_13, k_14, k_16, k_32, k_36, k_40, k_41, k_42, k_43, k_49, k_64, k_80, k_96, k_97, k_100, k_109, k_110, k_127, k_128, k_146, k_147, k_160, k_2304, k_4608, k_13824, nI_add, pk_mul, pk_sub, nI_clamp, q_in, nI_ltI, nI_leI, forall_eq, e_shl, e_bit, e_b0, e_b1, e_bn, e_andn, fa_or, fa_and, e_m1, e_nneg]
    have e0 : nI (andn (plc u i u.length) T) = nI 0 ↔ andn (plc u i u.length) T = 0 := q_inj (andn_lt hp) (by decide)
    rw [e0]
    refine ⟨fun q => hag _ ⟨S, rfl, fun x => ?_⟩, fun q => hag _ ⟨_, rfl, fun x => ?_⟩⟩
    · rw [hS]
      constructor
      · rintro ⟨a, b⟩; exact ⟨by omega, b⟩
      · rintro ⟨a, b⟩
        by_cases e : x = i
        · subst e; exact absurd q (hm.mp b)
        · exact ⟨by omega, b⟩
    · rw [tb_or2, Bool.or_eq_true, hS, decide_eq_true_eq]
      constructor
      · rintro (⟨a, b⟩ | a)
        · exact ⟨by omega, b⟩
        · subst a; exact ⟨by omega, hm.mpr q⟩
      · rintro ⟨a, b⟩
        by_cases e : x = i
        · exact Or.inr e
        · exact Or.inl ⟨by omega, b⟩
  · rintro again s ⟨S, rfl, hS⟩
    unfold wp_X3_lettersOfRest_L4
    try simp (disch := omega) only [k_0, k_1, k_2, k_3, k_4, k_6, k_7, k_10, k_11, k_12, k_13, k_14, k_16, k_32, k_36, k_40, k_41, k_42, k_43, k_49, k_64, k_80, k_96, k_97, k_100, k_109, k_110, k_127, k_128, k_146, k_147, k_160, k_2304, k_4608, k_13824, nI_add, pk_mul, pk_sub, nI_clamp, q_in, nI_ltI, nI_leI, nI_eq, forall_eq, e_shl, e_bit, e_b0, e_b1, e_bn, e_andn, fa_or, fa_and, e_m1, e_nneg]
    repeat (first | refine And.intro (fun hh => absurd hh (by omega)) (fun _ => ?_) | refine And.intro (fun _ => ?_) (fun hh => absurd hh (by omega)) | refine And.intro (by omega) ?_)
    exact hK S (tb_lt (fun j hj => ((hS j).mp hj).1)) hS
theorem lowl_at {f : Nat → Nat → Bool} {w r : List Nat} {i : Nat} (hi : rmv f i w = some r) : ∀ (n x : Nat), (∀ y, x ≤ y → y < i → rmv f y w = none) → x ≤ i → i < x + n → lowl f w n x = some (i, r)
  | 0, x, _, _, h => by omega
  | n + 1, x, hy, h1, h2 => by
    unfold lowl
    by_cases e : x = i
    · subst e; rw [hi]
    · rw [hy x (Nat.le_refl _) (by omega)]
      exact lowl_at hi n (x + 1) (fun y a b => hy y (by omega) b) (by omega) (by omega)
theorem rmv_head {f : Nat → Nat → Bool} (y : Nat) (r : List Nat) : rmv f y (y :: r) = some r := by rw [rmv, if_pos rfl]
theorem rmv_mem {f : Nat → Nat → Bool} : ∀ {w : List Nat} {x : Nat} {r : List Nat}, rmv f x w = some r → ∀ y ∈ r, y ∈ w
  | [], x, r, h, y, hy => by cases h
  | c :: w, x, r, h, y, hy => by
    unfold rmv at h
    split at h
    · cases h; exact List.mem_cons_of_mem _ hy
    · split at h
      · cases hr : rmv f x w with
        | none => rw [hr] at h; cases h
        | some r' =>
          rw [hr] at h
          cases h
          rcases List.mem_cons.mp hy with q | q
          · rw [q]; exact List.mem_cons_self
          · exact List.mem_cons_of_mem _ (rmv_mem hr y q)
      · cases h
theorem lowl_ex {f : Nat → Nat → Bool} {k : Nat} {w : List Nat} (hw : ∀ x ∈ w, x < k) (h0 : w ≠ []) : ∃ i r, i < k ∧ (∀ y, y < i → rmv f y w = none) ∧ rmv f i w = some r ∧ lowl f w k 0 = some (i, r) := by
  obtain ⟨y, w', e⟩ : ∃ y w', w = y :: w' := by
    cases w with
    | nil => exact absurd rfl h0
    | cons y w' => exact ⟨y, w', rfl⟩
  have hy : rmv f y w ≠ none := by rw [e, rmv_head]; simp
  have hyk : y < k := hw y (by rw [e]; exact List.mem_cons_self)
  obtain ⟨i, hi, hl⟩ := pk_least (fun x => rmv f x w ≠ none) ⟨y, hy⟩
  have hn : ∀ z, z < i → rmv f z w = none := fun z hz => Classical.byContradiction (fun q => hl z hz q)
  have hik : i < k := by
    rcases Nat.lt_or_ge y i with q | q
    · exact absurd (hn y q) hy
    · omega
  cases hr : rmv f i w with
  | none => exact absurd hr hi
  | some r => exact ⟨i, r, hik, hn, hr, lowl_at hr k 0 (fun y _ h => hn y h) (Nat.zero_le _) (by omega)⟩
theorem nfs_s {f : Nat → Nat → Bool} {k n : Nat} {w : List Nat} {i : Nat} {r : List Nat} (h : lowl f w k 0 = some (i, r)) : nfs f k (n + 1) w = i :: nfs f k n r := by
  rw [nfs, h]
theorem nfs_len {f : Nat → Nat → Bool} {k : Nat} : ∀ (n : Nat) (w : List Nat), (∀ x ∈ w, x < k) → n = w.length → (nfs f k n w).length = n
  | 0, w, _, _ => rfl
  | n + 1, w, hw, e => by
    obtain ⟨i, r, -, -, h3, h4⟩ := lowl_ex (f := f) hw (fun q => by rw [q] at e; simp at e)
    rw [nfs_s h4, List.length_cons, nfs_len n r (fun x hx => hw x (rmv_mem h3 x hx)) (by have := rmv_len w i r h3; omega)]
theorem nfs_lt {f : Nat → Nat → Bool} {k : Nat} : ∀ (n : Nat) (w : List Nat), (∀ x ∈ w, x < k) → n = w.length → ∀ y ∈ nfs f k n w, y < k
  | 0, w, _, _, y, hy => absurd hy List.not_mem_nil
  | n + 1, w, hw, e, y, hy => by
    obtain ⟨i, r, h1, -, h3, h4⟩ := lowl_ex (f := f) hw (fun q => by rw [q] at e; simp at e)
    rw [nfs_s h4] at hy
    rcases List.mem_cons.mp hy with q | q
    · omega
    · exact nfs_lt n r (fun x hx => hw x (rmv_mem h3 x hx)) (by have := rmv_len w i r h3; omega) y q
def nf (fr : Nat → Nat) (k : Nat) (w : List Nat) : List Nat := nfs (ind fr) k w.length w
theorem nf_len {fr : Nat → Nat} {k : Nat} {w : List Nat} (h : ∀ x ∈ w, x < k) : (nf fr k w).length = w.length := nfs_len _ _ h rfl
theorem nf_lt {fr : Nat → Nat} {k : Nat} {w : List Nat} (h : ∀ x ∈ w, x < k) : ∀ y ∈ nf fr k w, y < k := nfs_lt _ _ h rfl
theorem s_pushRest {u : List Nat} {T : Nat} {r : List Nat} (h : TK u T r) (h16 : u.length ≤ 16) {fr : Nat → Nat} (irr : ∀ a, ind fr a a = false) (sym : ∀ a b, ind fr a b = ind fr b a) {k : Nat} (hk : k ≤ 6) (hu : ∀ x ∈ u, x < k) {lA yA bA pA lt : Nat → Int32} (hP : PL fr u u.length lA yA bA pA) {w : List Nat} (hW : WR (nI w.length) lt w) (hl : w.length + r.length ≤ 32) {K : Int32 → Int32 → (Nat → Int32) → Prop} (hK : ∀ T' lt', WR (nI (w ++ nf fr k r).length) lt' (w ++ nf fr k r) → K (nI T') (nI (w ++ nf fr k r).length) lt') : wp_X3_pushRest (nI k) (nI u.length) (nI T) bA pA (nI w.length) lt K := by
  unfold wp_X3_pushRest
  refine s_countRest h h16 ?_
  refine for_X3_pushRest_L7 _ _ _ _ _ r.length (fun i t s l => ∃ T' r' d, t = nI T' ∧ TK u T' r' ∧ r'.length + i = r.length ∧ nf fr k r = d ++ nf fr k r' ∧ d.length = i ∧ s = nI (w ++ d).length ∧ WR s l (w ++ d)) ?_ ?_ 0 _ _ _ _ rfl (Nat.zero_le _) ⟨T, r, [], rfl, h, rfl, rfl, rfl, by simp, by simpa using hW⟩
  · rintro again i t s l hi ⟨T', r', d, rfl, hT', e1, e2, e3, rfl, hw⟩ hag
    have hr' : ∀ x ∈ r', x < k := fun x hx => hu x (hT'.mem hx)
    obtain ⟨z, r2, z1, z2, z3, z4⟩ := lowl_ex (f := ind fr) hr' (fun q => by rw [q] at e1; simp at e1; omega)
    unfold wp_X3_pushRest_L7
    try simp (disch := omega) only [k_0, k_1, k_2, k_3, k_4, k_6, k_7, k_10, k_11, k_12, k_13, k_14, k_16, k_32, k_36, k_40, k_41, k_42, k_43, k_49, k_64, k_80, k_96, k_97, k_100, k_109, k_110, k_127, k_128, k_146, k_147, k_160, k_2304, k_4608, k_13824, nI_add, pk_mul, pk_sub, nI_clamp, q_in, nI_ltI, nI_leI, nI_eq, forall_eq, e_shl, e_bit, e_b0, e_b1, e_bn, e_andn, fa_or, fa_and, e_m1, e_nneg]
    repeat (first | refine And.intro (fun hh => absurd hh (by omega)) (fun _ => ?_) | refine And.intro (fun _ => ?_) (fun hh => absurd hh (by omega)) | refine And.intro (by omega) ?_)
    refine for_X3_pushRest_L15 _ _ _ _ z (fun j t => t = nI T') ?_ ?_ 0 _ _ rfl (Nat.zero_le _) rfl
    · rintro again2 j t hj rfl hag2
      unfold wp_X3_pushRest_L15
      try simp (disch := omega) only [k_0, k_1, k_2, k_3, k_4, k_6, k_7, k_10, k_11, k_12, k_13, k_14, k_16, k_32, k_36, k_40, k_41, k_42, k_43, k_49, k_64, k_80, k_96, k_97, k_100, k_109, k_110, k_127, k_128, k_146, k_147, k_160, k_2304, k_4608, k_13824, nI_add, pk_mul, pk_sub, nI_clamp, q_in, nI_ltI, nI_leI, nI_eq, forall_eq, e_shl, e_bit, e_b0, e_b1, e_bn, e_andn, fa_or, fa_and, e_m1, e_nneg]
      repeat (first | refine And.intro (fun hh => absurd hh (by omega)) (fun _ => ?_) | refine And.intro (fun _ => ?_) (fun hh => absurd hh (by omega)) | refine And.intro (by omega) ?_)
      refine s_take irr sym hP (by omega) hT' (by omega) (fun r3 T3 q1 q2 => ?_) (fun q1 => ?_)
      · rw [z2 j hj] at q1; cases q1
      · refine ⟨fun q => absurd rfl q, fun _ => ?_⟩
        try simp (disch := omega) only [k_0, k_1, k_2, k_3, k_4, k_6, k_7, k_10, k_11, k_12, k_13, k_14, k_16, k_32, k_36, k_40, k_41, k_42, k_43, k_49, k_64, k_80, k_96, k_97, k_100, k_109, k_110, k_127, k_128, k_146, k_147, k_160, k_2304, k_4608, k_13824, nI_add, pk_mul, pk_sub, nI_clamp, q_in, nI_ltI, nI_leI, nI_eq, forall_eq, e_shl, e_bit, e_b0, e_b1, e_bn, e_andn, fa_or, fa_and, e_m1, e_nneg]
        exact hag2 _ rfl
    · rintro again2 t rfl
      unfold wp_X3_pushRest_L15
      try simp (disch := omega) only [k_0, k_1, k_2, k_3, k_4, k_6, k_7, k_10, k_11, k_12, k_13, k_14, k_16, k_32, k_36, k_40, k_41, k_42, k_43, k_49, k_64, k_80, k_96, k_97, k_100, k_109, k_110, k_127, k_128, k_146, k_147, k_160, k_2304, k_4608, k_13824, nI_add, pk_mul, pk_sub, nI_clamp, q_in, nI_ltI, nI_leI, nI_eq, forall_eq, e_shl, e_bit, e_b0, e_b1, e_bn, e_andn, fa_or, fa_and, e_m1, e_nneg]
      repeat (first | refine And.intro (fun hh => absurd hh (by omega)) (fun _ => ?_) | refine And.intro (fun _ => ?_) (fun hh => absurd hh (by omega)) | refine And.intro (by omega) ?_)
      refine s_take irr sym hP (by omega) hT' (by omega) (fun r3 T3 q1 q2 => ?_) (fun q1 => ?_)
      · rw [z3] at q1
        cases q1
        refine ⟨fun _ => ?_, fun q => absurd q (by decide)⟩
        unfold wp_X3_pushRest_J39
        try simp (disch := omega) only [k_0, k_1, k_2, k_3, k_4, k_6, k_7, k_10, k_11, k_12, k_13, k_14, k_16, k_32, k_36, k_40, k_41, k_42, k_43, k_49, k_64, k_80, k_96, k_97, k_100, k_109, k_110, k_127, k_128, k_146, k_147, k_160, k_2304, k_4608, k_13824, nI_add, pk_mul, pk_sub, nI_clamp, q_in, nI_ltI, nI_leI, nI_eq, forall_eq, e_shl, e_bit, e_b0, e_b1, e_bn, e_andn, fa_or, fa_and, e_m1, e_nneg]
        repeat (first | refine And.intro (fun hh => absurd hh (by omega)) (fun _ => ?_) | refine And.intro (fun _ => ?_) (fun hh => absurd hh (by omega)) | refine And.intro (by omega) ?_)
        have q3 := rmv_len r' z r2 z3
        refine s_push hw (by simp; omega) (fun l' hl' => ?_)
        try simp (disch := omega) only [k_0, k_1, k_2, k_3, k_4, k_6, k_7, k_10, k_11, k_12, k_13, k_14, k_16, k_32, k_36, k_40, k_41, k_42, k_43, k_49, k_64, k_80, k_96, k_97, k_100, k_109, k_110, k_127, k_128, k_146, k_147, k_160, k_2304, k_4608, k_13824, nI_add, pk_mul, pk_sub, nI_clamp, q_in, nI_ltI, nI_leI, nI_eq, forall_eq, e_shl, e_bit, e_b0, e_b1, e_bn, e_andn, fa_or, fa_and, e_m1, e_nneg]
        rw [List.append_assoc] at hl' ⊢
        refine hag _ _ _ ⟨T3, r2, d ++ [z], rfl, q2, by omega, ?_, by simp; omega, rfl, hl'⟩
        rw [e2, List.append_assoc]
        congr 1
        show nfs (ind fr) k r'.length r' = z :: nfs (ind fr) k r2.length r2
        rw [q3, nfs_s z4]
      · rw [z3] at q1; cases q1
  · rintro again t s l ⟨T', r', d, rfl, hT', e1, e2, e3, rfl, hw⟩
    unfold wp_X3_pushRest_L7
    try simp (disch := omega) only [k_0, k_1, k_2, k_3, k_4, k_6, k_7, k_10, k_11, k_12, k_13, k_14, k_16, k_32, k_36, k_40, k_41, k_42, k_43, k_49, k_64, k_80, k_96, k_97, k_100, k_109, k_110, k_127, k_128, k_146, k_147, k_160, k_2304, k_4608, k_13824, nI_add, pk_mul, pk_sub, nI_clamp, q_in, nI_ltI, nI_leI, nI_eq, forall_eq, e_shl, e_bit, e_b0, e_b1, e_bn, e_andn, fa_or, fa_and, e_m1, e_nneg]
    repeat (first | refine And.intro (fun hh => absurd hh (by omega)) (fun _ => ?_) | refine And.intro (fun _ => ?_) (fun hh => absurd hh (by omega)) | refine And.intro (by omega) ?_)
    have e4 : r' = [] := List.length_eq_zero_iff.mp (by omega)
    have e5 : nf fr k r = d := by rw [e2, e4]; simp [nf, nfs]
    rw [← e5] at hw ⊢
    exact hK _ _ hw
theorem s_writeRest {u : List Nat} {T : Nat} {r : List Nat} (h : TK u T r) (h16 : u.length ≤ 16) {fr : Nat → Nat} (irr : ∀ a, ind fr a a = false) (sym : ∀ a b, ind fr a b = ind fr b a) {k : Nat} (hk : k ≤ 6) (hu : ∀ x ∈ u, x < k) {lA yA bA pA lt : Nat → Int32} {sz : Int32} (hP : PL fr u u.length lA yA bA pA) {K : Int32 → Int32 → (Nat → Int32) → Prop} (hK : ∀ T' lt', WR (nI (nf fr k r).length) lt' (nf fr k r) → K (nI T') (nI (nf fr k r).length) lt') : wp_X3_writeRest (nI k) (nI u.length) (nI T) bA pA sz lt K := by
  have hl := h.len h16
  unfold wp_X3_writeRest wp_X9_empty
  exact s_pushRest (w := []) h h16 irr sym hk hu hP ⟨rfl, by simp, fun i hi => absurd hi (Nat.not_lt_zero _)⟩ (by simp; omega) hK
/-! layers -/
def layN (h : Nat → Nat) (n : Nat) : Nat := fld (fun i m => if m < h i + 1 then h i + 1 else m) 0 n
theorem layN_s (h : Nat → Nat) (n : Nat) : layN h (n + 1) = if layN h n < h n + 1 then h n + 1 else layN h n := rfl
theorem layN_le (h : Nat → Nat) (q : ∀ j, h j ≤ j) : ∀ n, layN h n ≤ n
  | 0 => Nat.le_refl 0
  | n + 1 => by
    have h1 := layN_le h q n
    have h2 := q n
    rw [layN_s]
    split <;> omega
theorem s_countLayers {fr : Nat → Nat} {u : List Nat} (h32 : u.length ≤ 32) {lA yA bA pA : Nat → Int32} (hP : PL fr u u.length lA yA bA pA) {K : Int32 → Prop} (hK : K (nI (layN (hN fr u u.length) u.length))) : wp_X3_countLayers (nI u.length) yA K := by
  unfold wp_X3_countLayers
  refine for_X3_countLayers_L4 _ _ _ u.length (fun i m => m = nI (layN (hN fr u u.length) i)) ?_ ?_ 0 _ _ rfl (Nat.zero_le _) rfl
  · rintro again i m hi rfl hag
    have h1 := layN_le _ (hN_le fr u u.length) i
    have h2 := hN_le fr u u.length i
    unfold wp_X3_countLayers_L4
    try simp (disch := omega) only [k_0, k_1, k_2, k_3, k_4, k_6, k_7, k_10, k_11, k_12, k_13, k_14, k_16, k_32, k_36, k_40, k_41, k_42, k_43, k_49, k_64, k_80, k_96, k_97, k_100, k_109, k_110, k_127, k_128, k_146, k_147, k_160, k_2304, k_4608, k_13824, nI_add, pk_mul, pk_sub, nI_clamp, q_in, nI_ltI, nI_leI, nI_eq, forall_eq, e_shl, e_bit, e_b0, e_b1, e_bn, e_andn, fa_or, fa_and, e_m1, e_nneg]
    repeat (first | refine And.intro (fun hh => absurd hh (by omega)) (fun _ => ?_) | refine And.intro (fun _ => ?_) (fun hh => absurd hh (by omega)) | refine And.intro (by omega) ?_)
    rw [hP.2.1 i hi]
    try simp (disch := omega) only [k_0, k_1, k_2, k_3, k_4, k_6, k_7, k_10, k_11, k_12, k_13, k_14, k_16, k_32, k_36, k_40, k_41, k_42, k_43, k_49, k_64, k_80, k_96, k_97, k_100, k_109, k_110, k_127, k_128, k_146, k_147, k_160, k_2304, k_4608, k_13824, nI_add, pk_mul, pk_sub, nI_clamp, q_in, nI_ltI, nI_leI, nI_eq, forall_eq, e_shl, e_bit, e_b0, e_b1, e_bn, e_andn, fa_or, fa_and, e_m1, e_nneg]
    refine hag _ ?_
    rw [layN_s]
    split <;> rfl
  · rintro again m rfl
    unfold wp_X3_countLayers_L4
    try simp (disch := omega) only [k_0, k_1, k_2, k_3, k_4, k_6, k_7, k_10, k_11, k_12, k_13, k_14, k_16, k_32, k_36, k_40, k_41, k_42, k_43, k_49, k_64, k_80, k_96, k_97, k_100, k_109, k_110, k_127, k_128, k_146, k_147, k_160, k_2304, k_4608, k_13824, nI_add, pk_mul, pk_sub, nI_clamp, q_in, nI_ltI, nI_leI, nI_eq, forall_eq, e_shl, e_bit, e_b0, e_b1, e_bn, e_andn, fa_or, fa_and, e_m1, e_nneg]
    repeat (first | refine And.intro (fun hh => absurd hh (by omega)) (fun _ => ?_) | refine And.intro (fun _ => ?_) (fun hh => absurd hh (by omega)) | refine And.intro (by omega) ?_)
    exact hK
def laySet (h : Nat → Nat) (u : List Nat) (l n : Nat) : Nat := fld (fun i s => if h i = l then s ||| 2 ^ u.getD i 0 else s) 0 n
theorem laySet_s (h : Nat → Nat) (u : List Nat) (l n : Nat) : laySet h u l (n + 1) = if h n = l then laySet h u l n ||| 2 ^ u.getD n 0 else laySet h u l n := rfl
theorem s_lettersOfLayer {fr : Nat → Nat} {u : List Nat} (h32 : u.length ≤ 32) (hu : ∀ x ∈ u, x < 6) {lA yA bA pA : Nat → Int32} (hP : PL fr u u.length lA yA bA pA) {l : Nat} (hl : l < 2 ^ 31) {K : Int32 → Prop} (hK : K (nI (laySet (hN fr u u.length) u l u.length))) : wp_X3_lettersOfLayer (nI u.length) lA yA (nI l) K := by
  unfold wp_X3_lettersOfLayer
  refine for_X3_lettersOfLayer_L4 _ _ _ _ _ u.length (fun i m => m = nI (laySet (hN fr u u.length) u l i)) ?_ ?_ 0 _ _ rfl (Nat.zero_le _) rfl
  · rintro again i m hi rfl hag
    have h2 := hN_le fr u u.length i
    have h3 := hu _ (getD_mem hi)
    unfold wp_X3_lettersOfLayer_L4
    try simp (disch := omega) only [k_0, k_1, k_2, k_3, k_4, k_6, k_7, k_10, k_11, k_12, k_13, k_14, k_16, k_32, k_36, k_40, k_41, k_42, k_43, k_49, k_64, k_80, k_96, k_97, k_100, k_109, k_110, k_127, k_128, k_146, k_147, k_160, k_2304, k_4608, k_13824, nI_add, pk_mul, pk_sub, nI_clamp, q_in, nI_ltI, nI_leI, nI_eq, forall_eq, e_shl, e_bit, e_b0, e_b1, e_bn, e_andn, fa_or, fa_and, e_m1, e_nneg]
    repeat (first | refine And.intro (fun hh => absurd hh (by omega)) (fun _ => ?_) | refine And.intro (fun _ => ?_) (fun hh => absurd hh (by omega)) | refine And.intro (by omega) ?_)
    rw [hP.2.1 i hi, hP.1 i hi]
    try simp (disch := omega) only [k_0, k_1, k_2, k_3, k_4, k_6, k_7, k_10, k_11, k_12, k_13, k_14, k_16, k_32, k_36, k_40, k_41, k_42, k_43, k_49, k_64, k_80, k_96, k_97, k_100, k_109, k_110, k_127, k_128, k_146, k_147, k_160, k_2304, k_4608, k_13824, nI_add, pk_mul, pk_sub, nI_clamp, q_in, nI_ltI, nI_leI, nI_eq, forall_eq, e_shl, e_bit, e_b0, e_b1, e_bn, e_andn, fa_or, fa_and, e_m1, e_nneg]
    rw [laySet_s] at hag
    refine ⟨fun q => ?_, fun q => ⟨by omega, ?_⟩⟩
    · rw [if_neg q] at hag; exact hag _ rfl
    · rw [if_pos q] at hag; exact hag _ rfl
  · rintro again m rfl
    unfold wp_X3_lettersOfLayer_L4
    try simp (disch := omega) only [k_0, k_1, k_2, k_3, k_4, k_6, k_7, k_10, k_11, k_12, k_13, k_14, k_16, k_32, k_36, k_40, k_41, k_42, k_43, k_49, k_64, k_80, k_96, k_97, k_100, k_109, k_110, k_127, k_128, k_146, k_147, k_160, k_2304, k_4608, k_13824, nI_add, pk_mul, pk_sub, nI_clamp, q_in, nI_ltI, nI_leI, nI_eq, forall_eq, e_shl, e_bit, e_b0, e_b1, e_bn, e_andn, fa_or, fa_and, e_m1, e_nneg]
    repeat (first | refine And.intro (fun hh => absurd hh (by omega)) (fun _ => ?_) | refine And.intro (fun _ => ?_) (fun hh => absurd hh (by omega)) | refine And.intro (by omega) ?_)
    exact hK
/-! how often a letter is there -/
theorem pop_ct (n : Nat) : ∀ f, pop n f = fb_ct (tb n) f
  | 0 => rfl
  | f + 1 => by
    rw [pop_add f 1 n, pop_ct n f, fb_ct_succ]
    congr 1
    show n / 2 ^ f % 2 + 0 = if n.testBit f = true then 1 else 0
    rw [Nat.testBit_eq_decide_div_mod_eq]
    rcases Nat.mod_two_eq_zero_or_one (n / 2 ^ f) with q | q <;> simp [q]
theorem cntB_ct (u : List Nat) (x : Nat) : ∀ n, cntB u x n = fb_ct (fun j => decide (u.getD j 0 = x)) n
  | 0 => rfl
  | n + 1 => by
    rw [cntB_s, fb_ct_succ, cntB_ct u x n]
    by_cases e : u.getD n 0 = x
    · rw [if_pos e, if_pos (decide_eq_true e)]
    · rw [if_neg e, if_neg (by rw [decide_eq_false e]; decide)]
      rfl
theorem pop_plc {u : List Nat} {x n : Nat} (h : n ≤ 16) : pop (plc u x n) 16 = cntB u x n := by
  have h1 : plc u x n < 2 ^ n := tb_lt (fun j hj => ((plc_bit u x j n).mp hj).1)
  rw [pop_big h1 h, pop_ct, cntB_ct]
  refine fb_ct_cong (fun j hj => ?_)
  by_cases e : u.getD j 0 = x
  · rw [show tb (plc u x n) j = true from (plc_bit u x j n).mpr ⟨hj, e⟩, decide_eq_true e]
  · rw [decide_eq_false e]
    exact tb_false (fun q => e ((plc_bit u x j n).mp q).2)
theorem s_countOf {fr : Nat → Nat} {u : List Nat} (h16 : u.length ≤ 16) {lA yA bA pA : Nat → Int32} (hP : PL fr u u.length lA yA bA pA) {x : Nat} (hx : x < 6) {K : Int32 → Prop} (hK : K (nI (cntB u x u.length))) : wp_X3_countOf pA (nI x) K := by
  have h1 : plc u x u.length < 2 ^ u.length := tb_lt (fun j hj => ((plc_bit u x j _).mp hj).1)
  have h2 : plc u x u.length < 65536 := Nat.lt_of_lt_of_le h1 (Nat.pow_le_pow_right (n := 2) (by decide) h16)
  unfold wp_X3_countOf
  try simp (disch := omega) only [k_0, k_1, k_2, k_3, k_4, k_6, k_7, k_10, k_11, k_12, k_13, k_14, k_16, k_32, k_36, k_40, k_41, k_42, k_43, k_49, k_64, k_80, k_96, k_97, k_100, k_109, k_110, k_127, k_128, k_146, k_147, k_160, k_2304, k_4608, k_13824, nI_add, pk_mul, pk_sub, nI_clamp, q_in, nI_ltI, nI_leI, nI_eq, forall_eq, e_shl, e_bit, e_b0, e_b1, e_bn, e_andn, fa_or, fa_and, e_m1, e_nneg]
  repeat (first | refine And.intro (fun hh => absurd hh (by omega)) (fun _ => ?_) | refine And.intro (fun _ => ?_) (fun hh => absurd hh (by omega)) | refine And.intro (by omega) ?_)
  rw [hP.2.2.2 x hx]
  refine s_bc h2 ?_
  rw [pop_plc h16]
  exact hK
