/-! when a recogniser is closed -/
noncomputable def cl (P : Prop) : Bool := @decide P (Classical.propDecidable P)
theorem cl_t {P : Prop} (h : P) : cl P = true := @decide_eq_true P (Classical.propDecidable P) h
theorem cl_f {P : Prop} (h : ¬ P) : cl P = false := @decide_eq_false P (Classical.propDecidable P) h
theorem cl_i {P : Prop} : cl P = true ↔ P := ⟨fun h => @of_decide_eq_true P (Classical.propDecidable P) h, cl_t⟩
theorem ct_lt {p q : Nat → Bool} {n : Nat} (h : ∀ j, j < n → p j = true → q j = true) (hx : ∃ j, j < n ∧ q j = true ∧ p j = false) : fb_ct p n < fb_ct q n := by
  have h1 := fb_ct_or (p := p) (q := fun j => q j && !p j) (n := n) (fun j _ => by
    rintro ⟨a, b⟩
    simp only [Bool.and_eq_true, Bool.not_eq_true'] at b
    rw [b.2] at a
    cases a)
  have h2 : fb_ct (fun j => p j || (q j && !p j)) n = fb_ct q n := fb_ct_cong (fun j hj => by
    have := h j hj
    show (p j || (q j && !p j)) = q j
    cases hA : p j with
    | true => rw [this hA]; rfl
    | false => simp)
  have h3 : 0 < fb_ct (fun j => q j && !p j) n := by
    rw [fb_ct_pos]
    obtain ⟨j, a, b, c⟩ := hx
    exact ⟨j, a, by show (q j && !p j) = true; rw [b, c]; rfl⟩
  omega
def run (ar : Nat → Nat → Nat) (q : Nat) : List Nat → Nat
  | [] => q
  | x :: w => run ar (ar q x) w
/-- a word of at most m letters tells two states apart -/
def DM (k : Nat) (ar : Nat → Nat → Nat) (ac m p q : Nat) : Prop := ∃ w : List Nat, w.length ≤ m ∧ (∀ x ∈ w, x < k) ∧ ac.testBit (run ar p w) ≠ ac.testBit (run ar q w)
def DD (k : Nat) (ar : Nat → Nat → Nat) (ac p q : Nat) : Prop := ∃ m, DM k ar ac m p q
theorem DM.mono {k : Nat} {ar : Nat → Nat → Nat} {ac m m' p q : Nat} (h : DM k ar ac m p q) (hm : m ≤ m') : DM k ar ac m' p q := by
  obtain ⟨w, a, b, c⟩ := h
  exact ⟨w, by omega, b, c⟩
theorem DM.sym {k : Nat} {ar : Nat → Nat → Nat} {ac m p q : Nat} (h : DM k ar ac m p q) : DM k ar ac m q p := by
  obtain ⟨w, a, b, c⟩ := h
  exact ⟨w, a, b, fun e => c e.symm⟩
theorem DM.tri {k : Nat} {ar : Nat → Nat → Nat} {ac m p q r : Nat} (h : DM k ar ac m p r) : DM k ar ac m p q ∨ DM k ar ac m q r := by
  obtain ⟨w, a, b, c⟩ := h
  by_cases e : ac.testBit (run ar p w) = ac.testBit (run ar q w)
  · exact Or.inr ⟨w, a, b, by rw [← e]; exact c⟩
  · exact Or.inl ⟨w, a, b, e⟩
theorem DM.irr {k : Nat} {ar : Nat → Nat → Nat} {ac m p : Nat} : ¬ DM k ar ac m p p := fun ⟨_, _, _, c⟩ => c rfl
theorem DM_0 {k : Nat} {ar : Nat → Nat → Nat} {ac p q : Nat} : DM k ar ac 0 p q ↔ ac.testBit p ≠ ac.testBit q := by
  constructor
  · rintro ⟨w, a, -, c⟩
    have e : w = [] := List.length_eq_zero_iff.mp (by omega)
    subst e
    exact c
  · intro h
    exact ⟨[], by simp, fun x hx => absurd hx List.not_mem_nil, h⟩
theorem DM_s {k : Nat} {ar : Nat → Nat → Nat} {ac m p q : Nat} : DM k ar ac (m + 1) p q ↔ DM k ar ac m p q ∨ ∃ x, x < k ∧ DM k ar ac m (ar p x) (ar q x) := by
  constructor
  · rintro ⟨w, a, b, c⟩
    cases w with
    | nil => exact Or.inl ⟨[], by simp, b, c⟩
    | cons x w => exact Or.inr ⟨x, b x List.mem_cons_self, w, by simpa using a, fun y hy => b y (List.mem_cons_of_mem _ hy), c⟩
  · rintro (h | ⟨x, hx, w, a, b, c⟩)
    · exact h.mono (by omega)
    · exact ⟨x :: w, by simpa using a, fun y hy => by
        rcases List.mem_cons.mp hy with q | q
        · rw [q]; exact hx
        · exact b y q, c⟩
/-- words of n letters tell apart what any word does -/
theorem moore {k : Nat} {ar : Nat → Nat → Nat} {ac n : Nat} (hk : k ≤ 6) (har : ∀ q x, q < n → x < 6 → ar q x < n) : ∀ p q, p < n → q < n → DD k ar ac p q → DM k ar ac n p q := by
  have stab : ∀ m, (∀ p q, p < n → q < n → DM k ar ac (m + 1) p q → DM k ar ac m p q) → ∀ d p q, p < n → q < n → DM k ar ac (m + d) p q → DM k ar ac m p q := by
    intro m hm d
    induction d with
    | zero => intro p q _ _ h; exact h
    | succ d ih =>
      intro p q hp hq h
      rw [← Nat.add_assoc, DM_s] at h
      rcases h with h | ⟨x, hx, h⟩
      · exact ih p q hp hq h
      · exact hm p q hp hq (DM_s.mpr (Or.inr ⟨x, hx, ih _ _ (har p x hp (by omega)) (har q x hq (by omega)) h⟩))
  have grow : ∀ m, (∀ p q, p < n → q < n → DM k ar ac (m + 1) p q → DM k ar ac m p q) ∨ (m + 1 ≤ fb_ct (fun q => cl (∀ p, p < q → DM k ar ac m p q)) n ∨ n = 0) := by
    intro m
    induction m with
    | zero =>
      refine Or.inr ?_
      by_cases h0 : n = 0
      · exact Or.inr h0
      · refine Or.inl ?_
        have : 0 < fb_ct (fun q => cl (∀ p, p < q → DM k ar ac 0 p q)) n := fb_ct_pos.mpr ⟨0, by omega, cl_t (fun p hp => absurd hp (Nat.not_lt_zero _))⟩
        omega
    | succ m ih =>
      by_cases hst : ∀ p q, p < n → q < n → DM k ar ac (m + 1) p q → DM k ar ac m p q
      · refine Or.inl (fun p q hp hq h => ?_)
        exact (stab m hst 2 p q hp hq h).mono (by omega)
      · refine Or.inr ?_
        rcases ih with ih | ih | ih
        · exact absurd ih hst
        · refine Or.inl ?_
          have hex : ∃ p q, p < n ∧ q < n ∧ DM k ar ac (m + 1) p q ∧ ¬ DM k ar ac m p q := by
            apply Classical.byContradiction
            intro hno
            refine hst (fun p q hp hq h => ?_)
            apply Classical.byContradiction
            intro h2
            exact hno ⟨p, q, hp, hq, h, h2⟩
          obtain ⟨p0, q0, hp0, hq0, hd1, hd2⟩ := hex
          obtain ⟨c, hc1, hc2⟩ := pk_least (fun c => ¬ DM k ar ac m c p0) ⟨p0, DM.irr⟩
          have hz : ∃ z, z < n ∧ DM k ar ac (m + 1) c z ∧ ¬ DM k ar ac m c z := by
            rcases DM.tri (q := c) hd1 with h | h
            · exact ⟨p0, hp0, h.sym, hc1⟩
            · refine ⟨q0, hq0, h, fun h2 => ?_⟩
              rcases DM.tri (q := p0) h2 with h3 | h3
              · exact hc1 h3
              · exact hd2 h3
          obtain ⟨z, hz1, hz2, hz3⟩ := hz
          obtain ⟨y, hy1, hy2⟩ := pk_least (fun y => ¬ DM k ar ac (m + 1) y z) ⟨z, DM.irr⟩
          have hyz : y ≤ z := by
            rcases Nat.lt_or_ge z y with q | q
            · exact absurd DM.irr (hy2 z q)
            · exact q
          have hyi : ¬ DM k ar ac m c y := fun h => by
            rcases DM.tri (q := z) h with h3 | h3
            · exact hz3 h3
            · exact hy1 (h3.sym.mono (by omega))
          have hyp : ¬ DM k ar ac m y p0 := fun h => by
            rcases DM.tri (q := c) h with h3 | h3
            · exact hyi h3.sym
            · exact hc1 h3
          have hcy : c < y := by
            rcases Nat.lt_trichotomy c y with q | q | q
            · exact q
            · rw [q] at hz2; exact absurd hz2 hy1
            · exact absurd hyp (hc2 y q)
          have hlt := ct_lt (p := fun q => cl (∀ p, p < q → DM k ar ac m p q)) (q := fun q => cl (∀ p, p < q → DM k ar ac (m + 1) p q)) (n := n) (fun j _ hj => cl_t (fun p hp => (cl_i.mp hj p hp).mono (by omega))) ⟨y, by omega, cl_t (fun p hp => Classical.byContradiction (fun hno => by
              have := hy2 p hp
              refine this (fun h => ?_)
              rcases DM.tri (q := y) h with h3 | h3
              · exact hno h3
              · exact hy1 h3)), cl_f (fun h => hyi (h c hcy))⟩
          omega
        · exact Or.inr ih
  intro p q hp hq ⟨m, h⟩
  have hs : ∀ p q, p < n → q < n → DM k ar ac (n + 1) p q → DM k ar ac n p q := by
    rcases grow n with g | g | g
    · exact g
    · have := fb_ct_le (fun q => cl (∀ p, p < q → DM k ar ac n p q)) n
      omega
    · omega
  rcases Nat.lt_or_ge m n with g | g
  · exact h.mono (by omega)
  · exact stab n hs (m - n) p q hp hq (by rw [show n + (m - n) = m by omega]; exact h)
theorem DD_step {k : Nat} {ar : Nat → Nat → Nat} {ac p q x : Nat} (hx : x < k) (h : DD k ar ac (ar p x) (ar q x)) : DD k ar ac p q := by
  obtain ⟨m, h⟩ := h
  exact ⟨m + 1, DM_s.mpr (Or.inr ⟨x, hx, h⟩)⟩
theorem DD.sym {k : Nat} {ar : Nat → Nat → Nat} {ac p q : Nat} (h : DD k ar ac p q) : DD k ar ac q p := by
  obtain ⟨m, h⟩ := h
  exact ⟨m, h.sym⟩
/-! the states that are reached -/
def RS (k : Nat) (ar : Nat → Nat → Nat) (q : Nat) : Prop := ∃ w : List Nat, (∀ x ∈ w, x < k) ∧ run ar 0 w = q
theorem run_app (ar : Nat → Nat → Nat) : ∀ (w v : List Nat) (q : Nat), run ar q (w ++ v) = run ar (run ar q w) v
  | [], v, q => rfl
  | x :: w, v, q => run_app ar w v (ar q x)
theorem RS.step {k : Nat} {ar : Nat → Nat → Nat} {q x : Nat} (h : RS k ar q) (hx : x < k) : RS k ar (ar q x) := by
  obtain ⟨w, a, b⟩ := h
  refine ⟨w ++ [x], fun y hy => ?_, by rw [run_app, b]; rfl⟩
  rcases List.mem_append.mp hy with q | q
  · exact a y q
  · rw [List.mem_singleton.mp q]; exact hx
/-- a set of states that holds the first one and all that arrows lead to -/
def RC (k n : Nat) (ar : Nat → Nat → Nat) (M : Nat) : Prop := ∀ q x, q < n → x < k → M.testBit q = true → M.testBit (ar q x) = true
theorem RC.all {k n : Nat} {ar : Nat → Nat → Nat} {M : Nat} (hk : k ≤ 6) (har : ∀ q x, q < n → x < 6 → ar q x < n) (h : RC k n ar M) : ∀ (w : List Nat) (q : Nat), q < n → M.testBit q = true → (∀ x ∈ w, x < k) → M.testBit (run ar q w) = true
  | [], q, _, hq, _ => hq
  | x :: w, q, hn, hq, hw => by
    have hx := hw x List.mem_cons_self
    exact RC.all hk har h w (ar q x) (har q x hn (by omega)) (h q x hn hx hq) (fun y hy => hw y (List.mem_cons_of_mem _ hy))
def RM (k n : Nat) (ar : Nat → Nat → Nat) (M : Nat) : Prop := M < 2 ^ n ∧ M.testBit 0 = true ∧ (∀ q, M.testBit q = true → RS k ar q)
theorem RM.add {k n : Nat} {ar : Nat → Nat → Nat} {M q x : Nat} (hk : k ≤ 6) (har : ∀ q x, q < n → x < 6 → ar q x < n) (h : RM k n ar M) (hq : M.testBit q = true) (hx : x < k) : RM k n ar (M ||| 2 ^ ar q x) := by
  have hqn := tb_of_lt h.1 hq
  refine ⟨or2_lt h.1 (har q x hqn (by omega)), by rw [tb_or2, h.2.1]; rfl, fun j hj => ?_⟩
  rw [tb_or2, Bool.or_eq_true, decide_eq_true_eq] at hj
  rcases hj with e | e
  · exact h.2.2 j e
  · rw [e]; exact (h.2.2 q hq).step hx
theorem RM.fin {k n : Nat} {ar : Nat → Nat → Nat} {M : Nat} (hk : k ≤ 6) (har : ∀ q x, q < n → x < 6 → ar q x < n) (h : RM k n ar M) (hc : RC k n ar M) (q : Nat) : M.testBit q = true ↔ RS k ar q := by
  refine ⟨h.2.2 q, fun ⟨w, a, b⟩ => ?_⟩
  rw [← b]
  exact hc.all hk har w 0 (tb_of_lt h.1 h.2.1) h.2.1 a
theorem tb_sub {M i : Nat} : subm M (M ||| 2 ^ i) := fun j hj => by rw [tb_or2, hj]; rfl
theorem s_findReached {arr : Nat → Int32} {k n : Nat} {ar : Nat → Nat → Nat} (hk : k ≤ 6) (hn1 : 1 ≤ n) (hn : n ≤ 6) (hA : ∀ q x, q < n → x < 6 → arr (q * 6 + x) = nI (ar q x)) (har : ∀ q x, q < n → x < 6 → ar q x < n) {K : Int32 → Prop} (hK : ∀ M, (∀ q, M.testBit q = true ↔ RS k ar q) → K (nI M)) : wp_X5_findReached (nI n) arr (nI k) K := by
  unfold wp_X5_findReached
  refine for_X5_findReached_L4 _ _ _ _ (n) (fun r x => ∃ M, x = nI M ∧ RM k n ar M ∧ (RC k n ar M ∨ r + 1 ≤ pop M n)) ?_ ?_ (0) _ _ rfl (Nat.zero_le _) (⟨1, rfl, ⟨Nat.one_lt_two_pow (by omega), by decide, fun q hq => ⟨[], fun x hx => absurd hx List.not_mem_nil, ?_⟩⟩, Or.inr ?_⟩)
  · rintro again r x hr ⟨M, rfl, hM, hor⟩ hag
    unfold wp_X5_findReached_L4
    try simp (disch := omega) only [k_0, k_1, k_2, k_3, k_4, k_6, k_7, k_10, k_11, k_12, k_13, k_14, k_16, k_32, k_36, k_40, k_41, k_42, k_43, k_49, k_64, k_80, k_96, k_97, k_100, k_109, k_110, k_127, k_128, k_146, k_147, k_160, k_2304, k_4608, k_13824, nI_add, pk_mul, pk_sub, nI_clamp, q_in, nI_ltI, nI_leI, nI_eq, forall_eq, e_shl, e_bit, e_b0, e_b1, e_bn, e_andn, fa_or, fa_and, e_m1, e_nneg]
    repeat (first | refine And.intro (fun hh => absurd hh (by omega)) (fun _ => ?_) | refine And.intro (fun _ => ?_) (fun hh => absurd hh (by omega)) | refine And.intro (by omega) ?_)
    refine for_X5_findReached_L15 _ _ _ _ (n) (fun q x => ∃ M', x = nI M' ∧ RM k n ar M' ∧ subm M M' ∧ ∀ q' x', q' < q → x' < k → M.testBit q' = true → M'.testBit (ar q' x') = true) ?_ ?_ (0) _ _ rfl (Nat.zero_le _) (⟨M, rfl, hM, fun _ h => h, fun q' x' hq' => absurd hq' (Nat.not_lt_zero _)⟩)
    · rintro again2 q x hq ⟨M', rfl, hM', hsub, hdone⟩ hag2
      unfold wp_X5_findReached_L15
      try simp (disch := omega) only [k_0, k_1, k_2, k_3, k_4, k_6, k_7, k_10, k_11, k_12, k_13, k_14, k_16, k_32, k_36, k_40, k_41, k_42, k_43, k_49, k_64, k_80, k_96, k_97, k_100, k_109, k_110, k_127, k_128, k_146, k_147, k_160, k_2304, k_4608, k_13824, nI_add, pk_mul, pk_sub, nI_clamp, q_in, nI_ltI, nI_leI, nI_eq, forall_eq, e_shl, e_bit, e_b0, e_b1, e_bn, e_andn, fa_or, fa_and, e_m1, e_nneg]
      repeat (first | refine And.intro (fun hh => absurd hh (by omega)) (fun _ => ?_) | refine And.intro (fun _ => ?_) (fun hh => absurd hh (by omega)) | refine And.intro (by omega) ?_)
      refine for_X5_findReached_L27 _ _ _ _ _ (k) (fun y x => ∃ M'', x = nI M'' ∧ RM k n ar M'' ∧ subm M' M'' ∧ ∀ x', x' < y → M.testBit q = true → M''.testBit (ar q x') = true) ?_ ?_ (0) _ _ rfl (Nat.zero_le _) (⟨M', rfl, hM', fun _ h => h, fun x' hx' => absurd hx' (Nat.not_lt_zero _)⟩)
      · rintro again3 y x hy ⟨M'', rfl, hM'', hsub2, hdone2⟩ hag3
        have a1 := har q y hq (by omega)
        unfold wp_X5_findReached_L27
        try simp (disch := omega) only [k_0, k_1, k_2, k_3, k_4, k_6, k_7, k_10, k_11, k_12, k_13, k_14, k_16, k_32, k_36, k_40, k_41, k_42, k_43, k_49, k_64, k_80, k_96, k_97, k_100, k_109, k_110, k_127, k_128, k_146, k_147, k_160, k_2304, k_4608, k_13824, nI_add, pk_mul, pk_sub, nI_clamp, q_in, nI_ltI, nI_leI, nI_eq, forall_eq, e_shl, e_bit, e_b0, e_b1, e_bn, e_andn, fa_or, fa_and, e_m1, e_nneg]
        repeat (first | refine And.intro (fun hh => absurd hh (by omega)) (fun _ => ?_) | refine And.intro (fun _ => ?_) (fun hh => absurd hh (by omega)) | refine And.intro (by omega) ?_)
        refine ⟨fun hb => ?_, fun hb => s_step hn hA hq (by omega) ?_⟩
        · have hMq : ¬ M.testBit q = true := fun h => by
            rw [hsub2 q (hsub q h)] at hb
            cases hb
          refine hag2 _ ⟨M'', rfl, hM'', fun j hj => hsub2 j (hsub j hj), fun q' x' hq' hx' hMq' => ?_⟩
          by_cases e : q' = q
          · subst e; exact absurd hMq' hMq
          · exact hsub2 _ (hdone q' x' (by omega) hx' hMq')
        · try simp (disch := omega) only [k_0, k_1, k_2, k_3, k_4, k_6, k_7, k_10, k_11, k_12, k_13, k_14, k_16, k_32, k_36, k_40, k_41, k_42, k_43, k_49, k_64, k_80, k_96, k_97, k_100, k_109, k_110, k_127, k_128, k_146, k_147, k_160, k_2304, k_4608, k_13824, nI_add, pk_mul, pk_sub, nI_clamp, q_in, nI_ltI, nI_leI, nI_eq, forall_eq, e_shl, e_bit, e_b0, e_b1, e_bn, e_andn, fa_or, fa_and, e_m1, e_nneg]
          refine hag3 _ ⟨_, rfl, hM''.add hk har hb hy, fun j hj => tb_sub j (hsub2 j hj), fun x' hx' hMq => ?_⟩
          by_cases e : x' = y
          · subst e; rw [tb_or2]; simp
          · exact tb_sub _ (hdone2 x' (by omega) hMq)
      · rintro again3 x ⟨M'', rfl, hM'', hsub2, hdone2⟩
        unfold wp_X5_findReached_L27
        try simp (disch := omega) only [k_0, k_1, k_2, k_3, k_4, k_6, k_7, k_10, k_11, k_12, k_13, k_14, k_16, k_32, k_36, k_40, k_41, k_42, k_43, k_49, k_64, k_80, k_96, k_97, k_100, k_109, k_110, k_127, k_128, k_146, k_147, k_160, k_2304, k_4608, k_13824, nI_add, pk_mul, pk_sub, nI_clamp, q_in, nI_ltI, nI_leI, nI_eq, forall_eq, e_shl, e_bit, e_b0, e_b1, e_bn, e_andn, fa_or, fa_and, e_m1, e_nneg]
        repeat (first | refine And.intro (fun hh => absurd hh (by omega)) (fun _ => ?_) | refine And.intro (fun _ => ?_) (fun hh => absurd hh (by omega)) | refine And.intro (by omega) ?_)
        refine hag2 _ ⟨M'', rfl, hM'', fun j hj => hsub2 j (hsub j hj), fun q' x' hq' hx' hMq' => ?_⟩
        by_cases e : q' = q
        · subst e; exact hdone2 x' hx' hMq'
        · exact hsub2 _ (hdone q' x' (by omega) hx' hMq')
    · rintro again2 x ⟨M', rfl, hM', hsub, hdone⟩
      unfold wp_X5_findReached_L15
      try simp (disch := omega) only [k_0, k_1, k_2, k_3, k_4, k_6, k_7, k_10, k_11, k_12, k_13, k_14, k_16, k_32, k_36, k_40, k_41, k_42, k_43, k_49, k_64, k_80, k_96, k_97, k_100, k_109, k_110, k_127, k_128, k_146, k_147, k_160, k_2304, k_4608, k_13824, nI_add, pk_mul, pk_sub, nI_clamp, q_in, nI_ltI, nI_leI, nI_eq, forall_eq, e_shl, e_bit, e_b0, e_b1, e_bn, e_andn, fa_or, fa_and, e_m1, e_nneg]
      repeat (first | refine And.intro (fun hh => absurd hh (by omega)) (fun _ => ?_) | refine And.intro (fun _ => ?_) (fun hh => absurd hh (by omega)) | refine And.intro (by omega) ?_)
      refine hag _ ⟨M', rfl, hM', ?_⟩
      by_cases hc : RC k n ar M
      · refine Or.inl ?_
        have e : M' = M := subm.eq (fun j hj => (hM.fin hk har hc j).mpr (hM'.2.2 j hj)) hsub
        rw [e]; exact hc
      · refine Or.inr ?_
        have h5 : r + 1 ≤ pop M n := by
          rcases hor with g | g
          · exact absurd g hc
          · exact g
        have h6 : ∃ j, j < n ∧ M'.testBit j = true ∧ M.testBit j = false := by
          apply Classical.byContradiction
          intro hno
          refine hc (fun q x hq hx hMq => ?_)
          have h7 := hdone q x hq hx hMq
          cases h8 : M.testBit (ar q x) with
          | true => rfl
          | false => exact absurd ⟨ar q x, har q x hq (by omega), h7, h8⟩ hno
        have := pop_lt hsub h6
        omega
  · rintro again x ⟨M, rfl, hM, hor⟩
    unfold wp_X5_findReached_L4
    try simp (disch := omega) only [k_0, k_1, k_2, k_3, k_4, k_6, k_7, k_10, k_11, k_12, k_13, k_14, k_16, k_32, k_36, k_40, k_41, k_42, k_43, k_49, k_64, k_80, k_96, k_97, k_100, k_109, k_110, k_127, k_128, k_146, k_147, k_160, k_2304, k_4608, k_13824, nI_add, pk_mul, pk_sub, nI_clamp, q_in, nI_ltI, nI_leI, nI_eq, forall_eq, e_shl, e_bit, e_b0, e_b1, e_bn, e_andn, fa_or, fa_and, e_m1, e_nneg]
    repeat (first | refine And.intro (fun hh => absurd hh (by omega)) (fun _ => ?_) | refine And.intro (fun _ => ?_) (fun hh => absurd hh (by omega)) | refine And.intro (by omega) ?_)
    refine hK M (hM.fin hk har ?_)
    rcases hor with g | g
    · exact g
    · have := pop_le M n
      omega
  · have := tb_of_lt (n := 1) (k := 1) (by decide) hq
    show 0 = q
    omega
  · have := pop_pos (A := 1) (k := n) (Nat.one_lt_two_pow (by omega)) (by decide)
    omega
theorem s_reachedR {v : Nat → Int32} {k n : Nat} {ar : Nat → Nat → Nat} (hv0 : v 0 = nI k) (hn0 : v 109 = nI n) (hk : k ≤ 6) (hn1 : 1 ≤ n) (hn : n ≤ 6) (hA : ∀ q x, q < n → x < 6 → v (110 + 6 * q + x) = nI (ar q x)) (har : ∀ q x, q < n → x < 6 → ar q x < n) {K : Int32 → Prop} (hK : ∀ M, (∀ q, M.testBit q = true ↔ RS k ar q) → K (nI M)) : wp_X11_reached v K := by
  unfold wp_X11_reached
  refine for_X11_reached_L4 _ _ (6) (fun r x => ∃ M, x = nI M ∧ RM k n ar M ∧ (RC k n ar M ∨ r + 1 ≤ pop M n)) ?_ ?_ (0) _ _ rfl (Nat.zero_le _) (⟨1, rfl, ⟨Nat.one_lt_two_pow (by omega), by decide, fun q hq => ⟨[], fun x hx => absurd hx List.not_mem_nil, ?_⟩⟩, Or.inr ?_⟩)
  · rintro again r x hr ⟨M, rfl, hM, hor⟩ hag
    unfold wp_X11_reached_L4
    try simp (disch := omega) only [k_0, k_1, k_2, k_3, k_4, k_6, k_7, k_10, k_11, k_12, k_13, k_14, k_16, k_32, k_36, k_40, k_41, k_42, k_43, k_49, k_64, k_80, k_96, k_97, k_100, k_109, k_110, k_127, k_128, k_146, k_147, k_160, k_2304, k_4608, k_13824, nI_add, pk_mul, pk_sub, nI_clamp, q_in, nI_ltI, nI_leI, nI_eq, forall_eq, e_shl, e_bit, e_b0, e_b1, e_bn, e_andn, fa_or, fa_and, e_m1, e_nneg]
    repeat (first | refine And.intro (fun hh => absurd hh (by omega)) (fun _ => ?_) | refine And.intro (fun _ => ?_) (fun hh => absurd hh (by omega)) | refine And.intro (by omega) ?_)
    refine for_X11_reached_L12 _ _ (n) (fun q x => ∃ M', x = nI M' ∧ RM k n ar M' ∧ subm M M' ∧ ∀ q' x', q' < q → x' < k → M.testBit q' = true → M'.testBit (ar q' x') = true) ?_ ?_ (0) _ _ rfl (Nat.zero_le _) (⟨M, rfl, hM, fun _ h => h, fun q' x' hq' => absurd hq' (Nat.not_lt_zero _)⟩)
    · rintro again2 q x hq ⟨M', rfl, hM', hsub, hdone⟩ hag2
      unfold wp_X11_reached_L12
      try simp (disch := omega) only [k_0, k_1, k_2, k_3, k_4, k_6, k_7, k_10, k_11, k_12, k_13, k_14, k_16, k_32, k_36, k_40, k_41, k_42, k_43, k_49, k_64, k_80, k_96, k_97, k_100, k_109, k_110, k_127, k_128, k_146, k_147, k_160, k_2304, k_4608, k_13824, nI_add, pk_mul, pk_sub, nI_clamp, q_in, nI_ltI, nI_leI, nI_eq, forall_eq, e_shl, e_bit, e_b0, e_b1, e_bn, e_andn, fa_or, fa_and, e_m1, e_nneg]
      rw [hn0]
      try simp (disch := omega) only [k_0, k_1, k_2, k_3, k_4, k_6, k_7, k_10, k_11, k_12, k_13, k_14, k_16, k_32, k_36, k_40, k_41, k_42, k_43, k_49, k_64, k_80, k_96, k_97, k_100, k_109, k_110, k_127, k_128, k_146, k_147, k_160, k_2304, k_4608, k_13824, nI_add, pk_mul, pk_sub, nI_clamp, q_in, nI_ltI, nI_leI, nI_eq, forall_eq, e_shl, e_bit, e_b0, e_b1, e_bn, e_andn, fa_or, fa_and, e_m1, e_nneg]
      repeat (first | refine And.intro (fun hh => absurd hh (by omega)) (fun _ => ?_) | refine And.intro (fun _ => ?_) (fun hh => absurd hh (by omega)) | refine And.intro (by omega) ?_)
      refine for_X11_reached_L26 _ _ _ (k) (fun y x => ∃ M'', x = nI M'' ∧ RM k n ar M'' ∧ subm M' M'' ∧ ∀ x', x' < y → M.testBit q = true → M''.testBit (ar q x') = true) ?_ ?_ (0) _ _ rfl (Nat.zero_le _) (⟨M', rfl, hM', fun _ h => h, fun x' hx' => absurd hx' (Nat.not_lt_zero _)⟩)
      · rintro again3 y x hy ⟨M'', rfl, hM'', hsub2, hdone2⟩ hag3
        have a1 := har q y hq (by omega)
        unfold wp_X11_reached_L26
        try simp (disch := omega) only [k_0, k_1, k_2, k_3, k_4, k_6, k_7, k_10, k_11, k_12, k_13, k_14, k_16, k_32, k_36, k_40, k_41, k_42, k_43, k_49, k_64, k_80, k_96, k_97, k_100, k_109, k_110, k_127, k_128, k_146, k_147, k_160, k_2304, k_4608, k_13824, nI_add, pk_mul, pk_sub, nI_clamp, q_in, nI_ltI, nI_leI, nI_eq, forall_eq, e_shl, e_bit, e_b0, e_b1, e_bn, e_andn, fa_or, fa_and, e_m1, e_nneg]
        rw [hv0]
        try simp (disch := omega) only [k_0, k_1, k_2, k_3, k_4, k_6, k_7, k_10, k_11, k_12, k_13, k_14, k_16, k_32, k_36, k_40, k_41, k_42, k_43, k_49, k_64, k_80, k_96, k_97, k_100, k_109, k_110, k_127, k_128, k_146, k_147, k_160, k_2304, k_4608, k_13824, nI_add, pk_mul, pk_sub, nI_clamp, q_in, nI_ltI, nI_leI, nI_eq, forall_eq, e_shl, e_bit, e_b0, e_b1, e_bn, e_andn, fa_or, fa_and, e_m1, e_nneg]
        repeat (first | refine And.intro (fun hh => absurd hh (by omega)) (fun _ => ?_) | refine And.intro (fun _ => ?_) (fun hh => absurd hh (by omega)) | refine And.intro (by omega) ?_)
        refine ⟨fun hb => ?_, fun hb => s_arrow hn hA hq (by omega) ?_⟩
        · have hMq : ¬ M.testBit q = true := fun h => hb (hsub2 q (hsub q h))
          rw [Nat.or_zero]
          exact hag3 _ ⟨M'', rfl, hM'', hsub2, fun x' hx' h => absurd h hMq⟩
        · try simp (disch := omega) only [k_0, k_1, k_2, k_3, k_4, k_6, k_7, k_10, k_11, k_12, k_13, k_14, k_16, k_32, k_36, k_40, k_41, k_42, k_43, k_49, k_64, k_80, k_96, k_97, k_100, k_109, k_110, k_127, k_128, k_146, k_147, k_160, k_2304, k_4608, k_13824, nI_add, pk_mul, pk_sub, nI_clamp, q_in, nI_ltI, nI_leI, nI_eq, forall_eq, e_shl, e_bit, e_b0, e_b1, e_bn, e_andn, fa_or, fa_and, e_m1, e_nneg]
          refine hag3 _ ⟨_, rfl, hM''.add hk har hb hy, fun j hj => tb_sub j (hsub2 j hj), fun x' hx' hMq => ?_⟩
          by_cases e : x' = y
          · subst e; rw [tb_or2]; simp
          · exact tb_sub _ (hdone2 x' (by omega) hMq)
      · rintro again3 x ⟨M'', rfl, hM'', hsub2, hdone2⟩
        unfold wp_X11_reached_L26
        try simp (disch := omega) only [k_0, k_1, k_2, k_3, k_4, k_6, k_7, k_10, k_11, k_12, k_13, k_14, k_16, k_32, k_36, k_40, k_41, k_42, k_43, k_49, k_64, k_80, k_96, k_97, k_100, k_109, k_110, k_127, k_128, k_146, k_147, k_160, k_2304, k_4608, k_13824, nI_add, pk_mul, pk_sub, nI_clamp, q_in, nI_ltI, nI_leI, nI_eq, forall_eq, e_shl, e_bit, e_b0, e_b1, e_bn, e_andn, fa_or, fa_and, e_m1, e_nneg]
        rw [hv0]
        try simp (disch := omega) only [k_0, k_1, k_2, k_3, k_4, k_6, k_7, k_10, k_11, k_12, k_13, k_14, k_16, k_32, k_36, k_40, k_41, k_42, k_43, k_49, k_64, k_80, k_96, k_97, k_100, k_109, k_110, k_127, k_128, k_146, k_147, k_160, k_2304, k_4608, k_13824, nI_add, pk_mul, pk_sub, nI_clamp, q_in, nI_ltI, nI_leI, nI_eq, forall_eq, e_shl, e_bit, e_b0, e_b1, e_bn, e_andn, fa_or, fa_and, e_m1, e_nneg]
        repeat (first | refine And.intro (fun hh => absurd hh (by omega)) (fun _ => ?_) | refine And.intro (fun _ => ?_) (fun hh => absurd hh (by omega)) | refine And.intro (by omega) ?_)
        refine hag2 _ ⟨M'', rfl, hM'', fun j hj => hsub2 j (hsub j hj), fun q' x' hq' hx' hMq' => ?_⟩
        by_cases e : q' = q
        · subst e; exact hdone2 x' hx' hMq'
        · exact hsub2 _ (hdone q' x' (by omega) hx' hMq')
    · rintro again2 x ⟨M', rfl, hM', hsub, hdone⟩
      unfold wp_X11_reached_L12
      try simp (disch := omega) only [k_0, k_1, k_2, k_3, k_4, k_6, k_7, k_10, k_11, k_12, k_13, k_14, k_16, k_32, k_36, k_40, k_41, k_42, k_43, k_49, k_64, k_80, k_96, k_97, k_100, k_109, k_110, k_127, k_128, k_146, k_147, k_160, k_2304, k_4608, k_13824, nI_add, pk_mul, pk_sub, nI_clamp, q_in, nI_ltI, nI_leI, nI_eq, forall_eq, e_shl, e_bit, e_b0, e_b1, e_bn, e_andn, fa_or, fa_and, e_m1, e_nneg]
      rw [hn0]
      try simp (disch := omega) only [k_0, k_1, k_2, k_3, k_4, k_6, k_7, k_10, k_11, k_12, k_13, k_14, k_16, k_32, k_36, k_40, k_41, k_42, k_43, k_49, k_64, k_80, k_96, k_97, k_100, k_109, k_110, k_127, k_128, k_146, k_147, k_160, k_2304, k_4608, k_13824, nI_add, pk_mul, pk_sub, nI_clamp, q_in, nI_ltI, nI_leI, nI_eq, forall_eq, e_shl, e_bit, e_b0, e_b1, e_bn, e_andn, fa_or, fa_and, e_m1, e_nneg]
      repeat (first | refine And.intro (fun hh => absurd hh (by omega)) (fun _ => ?_) | refine And.intro (fun _ => ?_) (fun hh => absurd hh (by omega)) | refine And.intro (by omega) ?_)
      refine hag _ ⟨M', rfl, hM', ?_⟩
      by_cases hc : RC k n ar M
      · refine Or.inl ?_
        have e : M' = M := subm.eq (fun j hj => (hM.fin hk har hc j).mpr (hM'.2.2 j hj)) hsub
        rw [e]; exact hc
      · refine Or.inr ?_
        have h5 : r + 1 ≤ pop M n := by
          rcases hor with g | g
          · exact absurd g hc
          · exact g
        have h6 : ∃ j, j < n ∧ M'.testBit j = true ∧ M.testBit j = false := by
          apply Classical.byContradiction
          intro hno
          refine hc (fun q x hq hx hMq => ?_)
          have h7 := hdone q x hq hx hMq
          cases h8 : M.testBit (ar q x) with
          | true => rfl
          | false => exact absurd ⟨ar q x, har q x hq (by omega), h7, h8⟩ hno
        have := pop_lt hsub h6
        omega
  · rintro again x ⟨M, rfl, hM, hor⟩
    unfold wp_X11_reached_L4
    try simp (disch := omega) only [k_0, k_1, k_2, k_3, k_4, k_6, k_7, k_10, k_11, k_12, k_13, k_14, k_16, k_32, k_36, k_40, k_41, k_42, k_43, k_49, k_64, k_80, k_96, k_97, k_100, k_109, k_110, k_127, k_128, k_146, k_147, k_160, k_2304, k_4608, k_13824, nI_add, pk_mul, pk_sub, nI_clamp, q_in, nI_ltI, nI_leI, nI_eq, forall_eq, e_shl, e_bit, e_b0, e_b1, e_bn, e_andn, fa_or, fa_and, e_m1, e_nneg]
    repeat (first | refine And.intro (fun hh => absurd hh (by omega)) (fun _ => ?_) | refine And.intro (fun _ => ?_) (fun hh => absurd hh (by omega)) | refine And.intro (by omega) ?_)
    refine hK M (hM.fin hk har ?_)
    rcases hor with g | g
    · exact g
    · have := pop_le M n
      omega
  · have := tb_of_lt (n := 1) (k := 1) (by decide) hq
    show 0 = q
    omega
  · have := pop_pos (A := 1) (k := n) (Nat.one_lt_two_pow (by omega)) (by decide)
    omega
