/-! how many words there are up to likeness -/
def sL (f : Nat → Int64) : Nat → Int64
  | 0 => 0
  | n + 1 => sL f n + f n
theorem sL_s (f : Nat → Int64) (n : Nat) : sL f (n + 1) = sL f n + f n := rfl
theorem sL_cong {f g : Nat → Int64} : ∀ {n : Nat}, (∀ k, k < n → f k = g k) → sL f n = sL g n
  | 0, _ => rfl
  | n + 1, h => by rw [sL_s, sL_s, sL_cong (fun k hk => h k (by omega)), h n (by omega)]
theorem sL_upd (f : Nat → Int64) (d : Int64) {c : Nat} : ∀ {n : Nat}, c < n → sL (fun j => if j = c then f j + d else f j) n = sL f n + d
  | 0, h => absurd h (Nat.not_lt_zero c)
  | n + 1, h => by
    rw [sL_s, sL_s]
    by_cases e : n = c
    · subst e
      rw [if_pos rfl, sL_cong (g := f) (fun k hk => if_neg (by omega)), Int64.add_assoc]
    · rw [if_neg e, sL_upd f d (by omega), Int64.add_assoc, Int64.add_assoc, Int64.add_comm d]
theorem sL_zero : ∀ n, sL (fun _ => 0) n = 0
  | 0 => rfl
  | n + 1 => by rw [sL_s, sL_zero n]; rfl
def CQ (fr : Nat → Nat) (k S : Nat) : Prop := ∀ x, x < k → S.testBit x = true → ∀ y, y ≠ x → S.testBit y = true → ind fr x y = true
noncomputable def cq (fr : Nat → Nat) (k S : Nat) : Bool := @decide (CQ fr k S) (Classical.propDecidable _)
theorem cq_t {fr : Nat → Nat} {k S : Nat} (h : CQ fr k S) : cq fr k S = true := @decide_eq_true _ (Classical.propDecidable _) h
theorem cq_f {fr : Nat → Nat} {k S : Nat} (h : ¬ CQ fr k S) : cq fr k S = false := @decide_eq_false _ (Classical.propDecidable _) h
def sg (c : Nat) (x : Int64) : Int64 := if c % 2 = 1 then x else -x
def pc (S : Nat) : Nat := pop S 6
noncomputable def NC (fr : Nat → Nat) (k c m : Nat) : Int64 := sL (fun s => if cq fr k s = true ∧ pc s = c then 1 else 0) m
theorem pc_tab : ∀ x, x < 64 → x ≠ 0 → pc (x &&& (x - 1)) + 1 = pc x ∧ (x &&& (x - 1)) < 64 ∧ 1 ≤ pc x ∧ nI x &&& (nI x - 1) = nI (x &&& (x - 1)) := by decide +kernel
theorem pc_le (x : Nat) : pc x ≤ 6 := pop_le x 6
theorem s_size {S : Nat} (hS : S < 64) {K : Int32 → Prop} (hK : K (nI (pc S))) : wp_X11_size (nI S) K := by
  have h6 := pc_le S
  unfold wp_X11_size
  refine for_X11_size_L4 _ (pc S) (fun i x => ∃ y, y < 64 ∧ x = nI y ∧ i + pc y = pc S) ?_ ?_ (0) _ _ rfl (Nat.zero_le _) (⟨S, hS, rfl, by omega⟩)
  · rintro again i x hi ⟨y, hy, rfl, e⟩ hag
    have h0 : y ≠ 0 := fun q => by
      rw [q, show pc 0 = 0 from rfl] at e
      omega
    obtain ⟨a, b, c, d⟩ := pc_tab y hy h0
    unfold wp_X11_size_L4
    rw [d, nI_1, k_0, nI_eq (by omega) (by decide)]
    refine br_f h0 (nm_e (nm_e (hag _ ⟨_, b, rfl, by omega⟩)))
  · rintro again x ⟨y, hy, rfl, e⟩
    have h0 : y = 0 := by
      apply Classical.byContradiction
      intro q
      have := (pc_tab y hy q).2.2.1
      omega
    subst h0
    unfold wp_X11_size_L4
    exact br_t rfl hK
theorem s_isClique {free : Nat → Int32} {fr : Nat → Nat} {k : Nat} (hf : FA free fr) (hk : k ≤ 6) {S : Nat} (hS : S < 64) {K : Int32 → Prop} (hK : K (bI (cq fr k S))) : wp_X0_isClique (nI k) free (nI S) K := by
  unfold wp_X0_isClique
  refine for_X0_isClique_L2 _ _ _ _ _ (k) (fun i => ∀ x, x < i → S.testBit x = true → ∀ y, y ≠ x → S.testBit y = true → ind fr x y = true) ?_ ?_ (0) _ rfl (Nat.zero_le _) (fun x hx => absurd hx (Nat.not_lt_zero _))
  · intro again i hi hJ hag
    have hb : ∀ y, (andn S (2 ^ i)).testBit y = true ↔ S.testBit y = true ∧ y ≠ i := by
      intro y
      rw [andn_bit, Bool.and_eq_true, Bool.not_eq_true', Nat.testBit_two_pow]
      constructor
      · rintro ⟨a, b⟩; exact ⟨a, fun e => by rw [e] at b; simp at b⟩
      · rintro ⟨a, b⟩; exact ⟨a, by simp; exact fun e => b e.symm⟩
    have ho : andn S (2 ^ i) < 64 := andn_lt (k := 6) hS
    have hz : andn (andn S (2 ^ i)) (fr i) < 64 := andn_lt (k := 6) ho
    have next : (S.testBit i = true → ∀ y, y ≠ i → S.testBit y = true → ind fr i y = true) → again (nI (i + 1)) := fun h => hag (fun x hx => by
      by_cases e : x = i
      · subst e; exact h
      · exact hJ x (by omega))
    unfold wp_X0_isClique_L2
    try simp (disch := omega) only [k_0, k_1, k_2, k_3, k_4, k_6, k_7, k_10, k_11, k_12, k_13, k_14, k_16, k_32, k_36, k_40, k_41, k_42, k_43, k_49, k_64, k_80, k_96, k_97, k_100, k_109, k_110, k_127, k_128, k_146, k_147, k_160, k_2304, k_4608, k_13824, nI_add, pk_mul, pk_sub, nI_clamp, q_in, nI_ltI, nI_leI, nI_eq, forall_eq, e_shl, e_bit, e_b0, e_b1, e_bn, e_andn, fa_or, fa_and, e_m1, e_nneg]
    repeat (first | refine And.intro (fun hh => absurd hh (by omega)) (fun _ => ?_) | refine And.intro (fun _ => ?_) (fun hh => absurd hh (by omega)) | refine And.intro (by omega) ?_)
    refine ⟨fun he => next (fun hSi => ?_), fun he => s_freeOf hf (by omega) ?_⟩
    · have := (hb i).mp (by rw [he]; exact hSi)
      exact absurd rfl this.2
    · rw [e_andn, nI_eq (by omega) (by decide), andn_zero]
      have hSi : S.testBit i = true := by
        cases h : S.testBit i with
        | true => rfl
        | false =>
          refine absurd (subm.eq (fun y hy => ((hb y).mp hy).1) (fun y hy => (hb y).mpr ⟨hy, fun e => ?_⟩)) he
          rw [e, h] at hy
          cases hy
      refine ⟨fun h => next (fun _ y hy hSy => h y ((hb y).mpr ⟨hSy, hy⟩)), fun h => ?_⟩
      rw [cq_f (fun hc => h (fun y hy => hc i hi hSi y ((hb y).mp hy).2 ((hb y).mp hy).1))] at hK
      exact hK
  · intro again hJ
    rw [cq_t hJ] at hK
    unfold wp_X0_isClique_L2
    try simp (disch := omega) only [k_0, k_1, k_2, k_3, k_4, k_6, k_7, k_10, k_11, k_12, k_13, k_14, k_16, k_32, k_36, k_40, k_41, k_42, k_43, k_49, k_64, k_80, k_96, k_97, k_100, k_109, k_110, k_127, k_128, k_146, k_147, k_160, k_2304, k_4608, k_13824, nI_add, pk_mul, pk_sub, nI_clamp, q_in, nI_ltI, nI_leI, nI_eq, forall_eq, e_shl, e_bit, e_b0, e_b1, e_bn, e_andn, fa_or, fa_and, e_m1, e_nneg]
    repeat (first | refine And.intro (fun hh => absurd hh (by omega)) (fun _ => ?_) | refine And.intro (fun _ => ?_) (fun hh => absurd hh (by omega)) | refine And.intro (by omega) ?_)
    exact hK
theorem s_cliqueR {v : Nat → Int32} {fr : Nat → Nat} {k : Nat} (hv0 : v 0 = nI k) (hf : FV v fr) (hfl : ∀ x, fr x < 64) (hk : k ≤ 6) {S : Nat} (hS : S < 64) {K : Int32 → Prop} (hK : K (bI (cq fr k S))) : wp_X11_areAllFree v (nI S) K := by
  unfold wp_X11_areAllFree
  refine for_X11_areAllFree_L4 _ _ _ (k) (fun i x => ∃ b, x = bI b ∧ (b = true ↔ ∀ x, x < i → S.testBit x = true → ∀ y, y ≠ x → S.testBit y = true → ind fr x y = true)) ?_ ?_ (0) _ _ rfl (Nat.zero_le _) (⟨true, rfl, fun _ x hx => absurd hx (Nat.not_lt_zero _), fun _ => rfl⟩)
  · rintro again i x hi ⟨b, rfl, hb⟩ hag
    have hb2 : ∀ y, (andn S (2 ^ i)).testBit y = true ↔ S.testBit y = true ∧ y ≠ i := by
      intro y
      rw [andn_bit, Bool.and_eq_true, Bool.not_eq_true', Nat.testBit_two_pow]
      constructor
      · rintro ⟨a, b⟩; exact ⟨a, fun e => by rw [e] at b; simp at b⟩
      · rintro ⟨a, b⟩; exact ⟨a, by simp; exact fun e => b e.symm⟩
    have ho : andn S (2 ^ i) < 64 := andn_lt (k := 6) hS
    have ha : fr i &&& andn S (2 ^ i) < 64 := Nat.lt_of_le_of_lt Nat.and_le_right ho
    have hand : fr i &&& andn S (2 ^ i) = andn S (2 ^ i) ↔ ∀ y, y ≠ i → S.testBit y = true → ind fr i y = true := by
      constructor
      · intro h y hy hSy
        have := (hb2 y).mpr ⟨hSy, hy⟩
        rw [← h, Nat.testBit_and, Bool.and_eq_true] at this
        exact this.1
      · intro h
        apply Nat.eq_of_testBit_eq
        intro y
        rw [Nat.testBit_and]
        cases e : (andn S (2 ^ i)).testBit y with
        | false => simp
        | true =>
          have := (hb2 y).mp e
          rw [show (fr i).testBit y = true from h y this.2 this.1]
          rfl
    have nxt : ∀ c, (c = true ↔ (S.testBit i = true → ∀ y, y ≠ i → S.testBit y = true → ind fr i y = true)) → b = true → again (bI c) (nI (i + 1)) := fun c hc hbt => hag _ ⟨c, rfl, fun h x hx => by
      by_cases e : x = i
      · subst e; exact hc.mp h
      · exact hb.mp hbt x (by omega), fun h => hc.mpr (h i (by omega))⟩
    unfold wp_X11_areAllFree_L4
    try simp (disch := omega) only [k_0, k_1, k_2, k_3, k_4, k_6, k_7, k_10, k_11, k_12, k_13, k_14, k_16, k_32, k_36, k_40, k_41, k_42, k_43, k_49, k_64, k_80, k_96, k_97, k_100, k_109, k_110, k_127, k_128, k_146, k_147, k_160, k_2304, k_4608, k_13824, nI_add, pk_mul, pk_sub, nI_clamp, q_in, nI_ltI, nI_leI, nI_eq, forall_eq, e_shl, e_bit, e_b0, e_b1, e_bn, e_andn, fa_or, fa_and, e_m1, e_nneg]
    rw [hv0, hf i (by omega)]
    try simp (disch := omega) only [k_0, k_1, k_2, k_3, k_4, k_6, k_7, k_10, k_11, k_12, k_13, k_14, k_16, k_32, k_36, k_40, k_41, k_42, k_43, k_49, k_64, k_80, k_96, k_97, k_100, k_109, k_110, k_127, k_128, k_146, k_147, k_160, k_2304, k_4608, k_13824, nI_add, pk_mul, pk_sub, nI_clamp, q_in, nI_ltI, nI_leI, nI_eq, forall_eq, e_shl, e_bit, e_b0, e_b1, e_bn, e_andn, fa_or, fa_and, e_m1, e_nneg]
    repeat (first | refine And.intro (fun hh => absurd hh (by omega)) (fun _ => ?_) | refine And.intro (fun _ => ?_) (fun hh => absurd hh (by omega)) | refine And.intro (by omega) ?_)
    cases hbb : b with
    | false =>
      refine br_t (by decide) (hag _ ⟨false, rfl, fun q => by (cases q), fun h => ?_⟩)
      rw [hbb] at hb
      exact hb.mpr (fun x hx => h x (by omega))
    | true =>
      refine br_f (by decide) ⟨fun hSi => nxt true ⟨fun _ q => by (rw [hSi] at q; cases q), fun _ => rfl⟩ hbb, fun hSi => ⟨by omega, fun h => ?_, fun h => ?_⟩⟩
      · rw [hand] at h
        exact nxt false ⟨fun q => by (cases q), fun q => absurd (q hSi) h⟩ hbb
      · rw [hand] at h
        exact nxt true ⟨fun _ _ => h, fun _ => rfl⟩ hbb
  · rintro again x ⟨b, rfl, hb⟩
    unfold wp_X11_areAllFree_L4
    try simp (disch := omega) only [k_0, k_1, k_2, k_3, k_4, k_6, k_7, k_10, k_11, k_12, k_13, k_14, k_16, k_32, k_36, k_40, k_41, k_42, k_43, k_49, k_64, k_80, k_96, k_97, k_100, k_109, k_110, k_127, k_128, k_146, k_147, k_160, k_2304, k_4608, k_13824, nI_add, pk_mul, pk_sub, nI_clamp, q_in, nI_ltI, nI_leI, nI_eq, forall_eq, e_shl, e_bit, e_b0, e_b1, e_bn, e_andn, fa_or, fa_and, e_m1, e_nneg]
    rw [hv0]
    try simp (disch := omega) only [k_0, k_1, k_2, k_3, k_4, k_6, k_7, k_10, k_11, k_12, k_13, k_14, k_16, k_32, k_36, k_40, k_41, k_42, k_43, k_49, k_64, k_80, k_96, k_97, k_100, k_109, k_110, k_127, k_128, k_146, k_147, k_160, k_2304, k_4608, k_13824, nI_add, pk_mul, pk_sub, nI_clamp, q_in, nI_ltI, nI_leI, nI_eq, forall_eq, e_shl, e_bit, e_b0, e_b1, e_bn, e_andn, fa_or, fa_and, e_m1, e_nneg]
    repeat (first | refine And.intro (fun hh => absurd hh (by omega)) (fun _ => ?_) | refine And.intro (fun _ => ?_) (fun hh => absurd hh (by omega)) | refine And.intro (by omega) ?_)
    refine ⟨bI_01 b, ?_⟩
    cases hbb : b with
    | false =>
      rw [cq_f (fun h => by rw [hb.mpr h] at hbb; cases hbb)] at hK
      exact hK
    | true =>
      rw [cq_t (hb.mp hbb)] at hK
      exact hK
/-- the next number of words, by sets; and by sizes of sets -/
noncomputable def DS (fr : Nat → Nat) (k : Nat) (f : Nat → Int64) (n m : Nat) : Int64 := sL (fun j => if cq fr k (j + 1) = true ∧ pc (j + 1) ≤ n then sg (pc (j + 1)) (f (n - pc (j + 1))) else 0) m
theorem sg_add (c : Nat) (x y : Int64) : sg c (x + y) = sg c x + sg c y := by
  unfold sg
  split
  · rfl
  · rw [Int64.neg_add, Int64.sub_eq_add_neg]
theorem DS_eq (fr : Nat → Nat) (k : Nat) (f : Nat → Int64) (n : Nat) : ∀ m, m < 64 → DS fr k f n m = sL (fun c => sg (c + 1) (NC fr k (c + 1) (m + 1) * f (n - (c + 1)))) (min n 6)
  | 0, _ => by
    have : sL (fun c => sg (c + 1) (NC fr k (c + 1) (0 + 1) * f (n - (c + 1)))) (min n 6) = sL (fun _ => 0) (min n 6) := sL_cong (fun c _ => by
      have e : NC fr k (c + 1) (0 + 1) = 0 := by
        unfold NC
        rw [sL_s, if_neg (by rintro ⟨-, q⟩; rw [show pc 0 = 0 from rfl] at q; omega)]
        rfl
      rw [e, Int64.zero_mul]
      unfold sg
      split <;> rfl)
    rw [this, sL_zero]
    rfl
  | m + 1, hm => by
    have ih := DS_eq fr k f n m (by omega)
    have hp := (pc_tab (m + 1) (by omega) (by omega)).2.2.1
    have hp6 := pc_le (m + 1)
    have e1 : DS fr k f n (m + 1) = DS fr k f n m + (if cq fr k (m + 1) = true ∧ pc (m + 1) ≤ n then sg (pc (m + 1)) (f (n - pc (m + 1))) else 0) := rfl
    have e2 : ∀ c, NC fr k c (m + 1 + 1) = NC fr k c (m + 1) + (if cq fr k (m + 1) = true ∧ pc (m + 1) = c then 1 else 0) := fun c => rfl
    rw [e1, ih]
    by_cases hc : cq fr k (m + 1) = true ∧ pc (m + 1) ≤ n
    · rw [if_pos hc]
      rw [← sL_upd _ _ (show pc (m + 1) - 1 < min n 6 by omega)]
      refine sL_cong (fun c hcn => ?_)
      rw [e2]
      by_cases q : c = pc (m + 1) - 1
      · rw [if_pos q, if_pos ⟨hc.1, by omega⟩, Int64.add_mul, Int64.one_mul, sg_add, show c + 1 = pc (m + 1) by omega]
      · rw [if_neg q, if_neg (by rintro ⟨-, q2⟩; omega), Int64.add_zero]
    · rw [if_neg hc, Int64.add_zero]
      refine sL_cong (fun c hcn => ?_)
      rw [e2, if_neg (by rintro ⟨q1, q2⟩; exact hc ⟨q1, by omega⟩), Int64.add_zero]
noncomputable def DT (fr : Nat → Nat) (k : Nat) : Nat → Nat → Int64
  | 0 => fun _ => 1
  | n + 1 => fun j => if j = n + 1 then DS fr k (DT fr k n) (n + 1) (2 ^ k - 1) else DT fr k n j
theorem DT_s (fr : Nat → Nat) (k n j : Nat) : DT fr k (n + 1) j = if j = n + 1 then DS fr k (DT fr k n) (n + 1) (2 ^ k - 1) else DT fr k n j := rfl
theorem DS_cong {fr : Nat → Nat} {k : Nat} {f g : Nat → Int64} {n m : Nat} (hm : m < 64) (h : ∀ j, j < n → f j = g j) : DS fr k f n m = DS fr k g n m := sL_cong (fun j hj => by
  have hp := (pc_tab (j + 1) (by omega) (by omega)).2.2.1
  split
  · rename_i hc
    rw [h _ (by omega)]
  · rfl)
theorem q_and1' (n : Nat) : nI n &&& nI 1 = nI (n % 2) := q_and1 n
theorem k_2' : (2 : Int32) = nI 2 := rfl
theorem p2k {k : Nat} (hk : k ≤ 6) : 2 ^ k ≤ 64 := Nat.pow_le_pow_right (n := 2) (by decide) hk
theorem s_countCliques {free : Nat → Int32} {fr : Nat → Nat} {k : Nat} (hf : FA free fr) (hk : k ≤ 6) {K : (Nat → Int64) → Prop} (hK : ∀ f, (∀ c, c < 7 → f c = NC fr k c (2 ^ k)) → K f) : wp_X0_countCliques (nI k) free K := by
  have h64 := p2k hk
  unfold wp_X0_countCliques
  refine for_X0_countCliques_L7 _ _ _ (2 ^ k) (fun i f => ∀ c, c < 7 → f c = NC fr k c i) ?_ ?_ (0) _ _ rfl (Nat.zero_le _) (fun c _ => rfl)
  · intro again i f hi hJ hag
    have h6 := pc_le i
    unfold wp_X0_countCliques_L7
    try simp (disch := omega) only [k_0, k_1, k_2, k_3, k_4, k_6, k_7, k_10, k_11, k_12, k_13, k_14, k_16, k_32, k_36, k_40, k_41, k_42, k_43, k_49, k_64, k_80, k_96, k_97, k_100, k_109, k_110, k_127, k_128, k_146, k_147, k_160, k_2304, k_4608, k_13824, nI_add, pk_mul, pk_sub, nI_clamp, q_in, nI_ltI, nI_leI, nI_eq, forall_eq, e_shl, e_bit, e_b0, e_b1, e_bn, e_andn, fa_or, fa_and, e_m1, e_nneg]
    repeat (first | refine And.intro (fun hh => absurd hh (by omega)) (fun _ => ?_) | refine And.intro (fun _ => ?_) (fun hh => absurd hh (by omega)) | refine And.intro (by omega) ?_)
    refine s_isClique hf hk (by omega) ?_
    have e2 : ∀ c, NC fr k c (i + 1) = NC fr k c i + (if cq fr k i = true ∧ pc i = c then 1 else 0) := fun c => rfl
    cases hc : cq fr k i with
    | false =>
      refine br_t (by decide) (hag _ (fun c h7 => ?_))
      rw [e2, hc, if_neg (by rintro ⟨q, -⟩; cases q), Int64.add_zero]
      exact hJ c h7
    | true =>
      refine br_f (by decide) (s_bc (by omega) ?_)
      rw [pop_big (show i < 2 ^ 6 by omega) (by decide)]
      show vp_in (nI (pc i)) 7 ∧ vp_in (nI (pc i)) 7 ∧ again (nI (i + 1)) (vp_updL f (nI (pc i)).toNatClampNeg (f (nI (pc i)).toNatClampNeg + 1))
      try simp (disch := omega) only [k_0, k_1, k_2, k_3, k_4, k_6, k_7, k_10, k_11, k_12, k_13, k_14, k_16, k_32, k_36, k_40, k_41, k_42, k_43, k_49, k_64, k_80, k_96, k_97, k_100, k_109, k_110, k_127, k_128, k_146, k_147, k_160, k_2304, k_4608, k_13824, nI_add, pk_mul, pk_sub, nI_clamp, q_in, nI_ltI, nI_leI, nI_eq, forall_eq, e_shl, e_bit, e_b0, e_b1, e_bn, e_andn, fa_or, fa_and, e_m1, e_nneg]
      refine ⟨by omega, by omega, hag _ (fun c h7 => ?_)⟩
      rw [e2, hc]
      by_cases e : c = pc i
      · subst e
        rw [pk_uLs, hJ _ h7, if_pos ⟨rfl, rfl⟩]
      · rw [pk_uLn e, hJ c h7, if_neg (by rintro ⟨-, q⟩; exact e q.symm), Int64.add_zero]
  · intro again f hJ
    unfold wp_X0_countCliques_L7
    try simp (disch := omega) only [k_0, k_1, k_2, k_3, k_4, k_6, k_7, k_10, k_11, k_12, k_13, k_14, k_16, k_32, k_36, k_40, k_41, k_42, k_43, k_49, k_64, k_80, k_96, k_97, k_100, k_109, k_110, k_127, k_128, k_146, k_147, k_160, k_2304, k_4608, k_13824, nI_add, pk_mul, pk_sub, nI_clamp, q_in, nI_ltI, nI_leI, nI_eq, forall_eq, e_shl, e_bit, e_b0, e_b1, e_bn, e_andn, fa_or, fa_and, e_m1, e_nneg]
    repeat (first | refine And.intro (fun hh => absurd hh (by omega)) (fun _ => ?_) | refine And.intro (fun _ => ?_) (fun hh => absurd hh (by omega)) | refine And.intro (by omega) ?_)
    exact hK _ hJ
theorem s_countDifferent {free : Nat → Int32} {fr : Nat → Nat} {k : Nat} (hf : FA free fr) (hk : k ≤ 6) {L : Nat} (hL : L ≤ 16) {K : Int64 → Prop} (hK : K (DT fr k L L)) : wp_X0_countDifferent (nI k) free (nI L) K := by
  have h64 := p2k hk
  have h1k : 1 ≤ 2 ^ k := Nat.two_pow_pos k
  unfold wp_X0_countDifferent
  try simp (disch := omega) only [k_0, k_1, k_2, k_3, k_4, k_6, k_7, k_10, k_11, k_12, k_13, k_14, k_16, k_32, k_36, k_40, k_41, k_42, k_43, k_49, k_64, k_80, k_96, k_97, k_100, k_109, k_110, k_127, k_128, k_146, k_147, k_160, k_2304, k_4608, k_13824, nI_add, pk_mul, pk_sub, nI_clamp, q_in, nI_ltI, nI_leI, nI_eq, forall_eq, e_shl, e_bit, e_b0, e_b1, e_bn, e_andn, fa_or, fa_and, e_m1, e_nneg]
  repeat (first | refine And.intro (fun hh => absurd hh (by omega)) (fun _ => ?_) | refine And.intro (fun _ => ?_) (fun hh => absurd hh (by omega)) | refine And.intro (by omega) ?_)
  refine s_countCliques hf hk (fun cl hcl => ⟨by decide, ?_⟩)
  refine for_X0_countDifferent_L29 _ _ _ (L + 1) (fun i f => 1 ≤ i ∧ ∀ j, j < i → f j = DT fr k (i - 1) j) ?_ ?_ (1) _ _ rfl (by omega) (⟨Nat.le_refl _, fun j hj => by rw [show j = 0 by omega]; exact pk_uLs⟩)
  · rintro again n f hn ⟨h1, hJ⟩ hag
    unfold wp_X0_countDifferent_L29
    try simp (disch := omega) only [k_0, k_1, k_2, k_3, k_4, k_6, k_7, k_10, k_11, k_12, k_13, k_14, k_16, k_32, k_36, k_40, k_41, k_42, k_43, k_49, k_64, k_80, k_96, k_97, k_100, k_109, k_110, k_127, k_128, k_146, k_147, k_160, k_2304, k_4608, k_13824, nI_add, pk_mul, pk_sub, nI_clamp, q_in, nI_ltI, nI_leI, nI_eq, forall_eq, e_shl, e_bit, e_b0, e_b1, e_bn, e_andn, fa_or, fa_and, e_m1, e_nneg]
    repeat (first | refine And.intro (fun hh => absurd hh (by omega)) (fun _ => ?_) | refine And.intro (fun _ => ?_) (fun hh => absurd hh (by omega)) | refine And.intro (by omega) ?_)
    refine for_X0_countDifferent_L41 _ _ _ _ (min n 6 + 1) (fun i x => 1 ≤ i ∧ x = sL (fun c => sg (c + 1) (NC fr k (c + 1) (2 ^ k) * DT fr k (n - 1) (n - (c + 1)))) (i - 1)) ?_ ?_ (1) _ _ rfl (by omega) (⟨Nat.le_refl _, rfl⟩)
    · rintro again2 i x hi ⟨hi1, rfl⟩ hag2
      unfold wp_X0_countDifferent_L41
      try simp (disch := omega) only [k_0, k_1, k_2, k_3, k_4, k_6, k_7, k_10, k_11, k_12, k_13, k_14, k_16, k_32, k_36, k_40, k_41, k_42, k_43, k_49, k_64, k_80, k_96, k_97, k_100, k_109, k_110, k_127, k_128, k_146, k_147, k_160, k_2304, k_4608, k_13824, nI_add, pk_mul, pk_sub, nI_clamp, q_in, nI_ltI, nI_leI, nI_eq, forall_eq, e_shl, e_bit, e_b0, e_b1, e_bn, e_andn, fa_or, fa_and, e_m1, e_nneg]
      repeat (first | refine And.intro (fun hh => absurd hh (by omega)) (fun _ => ?_) | refine And.intro (fun _ => ?_) (fun hh => absurd hh (by omega)) | refine And.intro (by omega) ?_)
      rw [hcl i (by omega), hJ (n - i) (by omega), show i &&& 1 = i % 2 from Nat.and_one_is_mod i]
      have e3 : sL (fun c => sg (c + 1) (NC fr k (c + 1) (2 ^ k) * DT fr k (n - 1) (n - (c + 1)))) (i + 1 - 1) = sL (fun c => sg (c + 1) (NC fr k (c + 1) (2 ^ k) * DT fr k (n - 1) (n - (c + 1)))) (i - 1) + sg i (NC fr k i (2 ^ k) * DT fr k (n - 1) (n - i)) := by
        have := sL_s (fun c => sg (c + 1) (NC fr k (c + 1) (2 ^ k) * DT fr k (n - 1) (n - (c + 1)))) (i - 1)
        rw [show i - 1 + 1 = i by omega] at this
        rw [show i + 1 - 1 = i by omega]
        exact this
      try simp (disch := omega) only [k_0, k_1, k_2, k_3, k_4, k_6, k_7, k_10, k_11, k_12, k_13, k_14, k_16, k_32, k_36, k_40, k_41, k_42, k_43, k_49, k_64, k_80, k_96, k_97, k_100, k_109, k_110, k_127, k_128, k_146, k_147, k_160, k_2304, k_4608, k_13824, nI_add, pk_mul, pk_sub, nI_clamp, q_in, nI_ltI, nI_leI, nI_eq, forall_eq, e_shl, e_bit, e_b0, e_b1, e_bn, e_andn, fa_or, fa_and, e_m1, e_nneg]
      refine ⟨fun q => hag2 _ ⟨by omega, ?_⟩, fun q => hag2 _ ⟨by omega, ?_⟩⟩
      · rw [e3]
        unfold sg
        rw [if_neg (c := i % 2 = 1) (by omega)]
      · rw [e3]
        unfold sg
        rw [if_pos (c := i % 2 = 1) (by omega)]
    · rintro again2 x ⟨hi1, rfl⟩
      have fin : again (nI (n + 1)) (vp_updL f n (sL (fun c => sg (c + 1) (NC fr k (c + 1) (2 ^ k) * DT fr k (n - 1) (n - (c + 1)))) (min n 6 + 1 - 1))) := by
        refine hag _ ⟨by omega, fun j hj => ?_⟩
        have e4 := DT_s fr k (n - 1) j
        rw [show n - 1 + 1 = n by omega] at e4
        rw [show n + 1 - 1 = n by omega, e4]
        by_cases e : j = n
        · subst e
          rw [pk_uLs, if_pos rfl, DS_eq fr k _ j _ (by omega), show 2 ^ k - 1 + 1 = 2 ^ k by omega]
          rfl
        · rw [pk_uLn e, if_neg e]
          exact hJ j (by omega)
      unfold wp_X0_countDifferent_L41
      try simp (disch := omega) only [k_0, k_1, k_2, k_3, k_4, k_6, k_7, k_10, k_11, k_12, k_13, k_14, k_16, k_32, k_36, k_40, k_41, k_42, k_43, k_49, k_64, k_80, k_96, k_97, k_100, k_109, k_110, k_127, k_128, k_146, k_147, k_160, k_2304, k_4608, k_13824, nI_add, pk_mul, pk_sub, nI_clamp, q_in, nI_ltI, nI_leI, nI_eq, forall_eq, e_shl, e_bit, e_b0, e_b1, e_bn, e_andn, fa_or, fa_and, e_m1, e_nneg]
      refine ⟨fun _ => ⟨by omega, fin⟩, fun q => ⟨fun _ => ⟨by omega, fin⟩, fun q2 => ?_⟩⟩
      omega
  · rintro again f ⟨h1, hJ⟩
    unfold wp_X0_countDifferent_L29
    try simp (disch := omega) only [k_0, k_1, k_2, k_3, k_4, k_6, k_7, k_10, k_11, k_12, k_13, k_14, k_16, k_32, k_36, k_40, k_41, k_42, k_43, k_49, k_64, k_80, k_96, k_97, k_100, k_109, k_110, k_127, k_128, k_146, k_147, k_160, k_2304, k_4608, k_13824, nI_add, pk_mul, pk_sub, nI_clamp, q_in, nI_ltI, nI_leI, nI_eq, forall_eq, e_shl, e_bit, e_b0, e_b1, e_bn, e_andn, fa_or, fa_and, e_m1, e_nneg]
    repeat (first | refine And.intro (fun hh => absurd hh (by omega)) (fun _ => ?_) | refine And.intro (fun _ => ?_) (fun hh => absurd hh (by omega)) | refine And.intro (by omega) ?_)
    rw [hJ L (by omega)]
    exact hK
theorem s_differentR {v : Nat → Int32} {many : Nat → Int64} {fr : Nat → Nat} {k : Nat} (hv0 : v 0 = nI k) (hf : FV v fr) (hfl : ∀ x, fr x < 64) (hk : k ≤ 6) {L : Nat} (hL : L ≤ 16) {K : Int64 → (Nat → Int64) → Prop} (hK : ∀ m, K (DT fr k L L) m) : wp_X11_different v many (nI L) K := by
  have h64 := p2k hk
  have h1k : 1 ≤ 2 ^ k := Nat.two_pow_pos k
  unfold wp_X11_different
  refine s_in (lo := 0) (hi := 16) (Nat.zero_le _) hL (by decide) ?_
  (first | refine br_t (by decide) ?_ | refine br_f (by decide) ?_ | refine br_t' (by decide) ?_ | refine br_f' (by decide) ?_)
  try simp (disch := omega) only [k_0, k_1, k_2, k_3, k_4, k_6, k_7, k_10, k_11, k_12, k_13, k_14, k_16, k_32, k_36, k_40, k_41, k_42, k_43, k_49, k_64, k_80, k_96, k_97, k_100, k_109, k_110, k_127, k_128, k_146, k_147, k_160, k_2304, k_4608, k_13824, nI_add, pk_mul, pk_sub, nI_clamp, q_in, nI_ltI, nI_leI, nI_eq, forall_eq, e_shl, e_bit, e_b0, e_b1, e_bn, e_andn, fa_or, fa_and, e_m1, e_nneg]
  refine ⟨by decide, ?_⟩
  refine for_X11_different_L23 _ _ _ (L + 1) (fun i f => 1 ≤ i ∧ ∀ j, j < i → f j = DT fr k (i - 1) j) ?_ ?_ (1) _ _ rfl (by omega) (⟨Nat.le_refl _, fun j hj => by rw [show j = 0 by omega]; exact pk_uLs⟩)
  · rintro again n f hn ⟨h1, hJ⟩ hag
    unfold wp_X11_different_L23
    try simp (disch := omega) only [k_0, k_1, k_2, k_3, k_4, k_6, k_7, k_10, k_11, k_12, k_13, k_14, k_16, k_32, k_36, k_40, k_41, k_42, k_43, k_49, k_64, k_80, k_96, k_97, k_100, k_109, k_110, k_127, k_128, k_146, k_147, k_160, k_2304, k_4608, k_13824, nI_add, pk_mul, pk_sub, nI_clamp, q_in, nI_ltI, nI_leI, nI_eq, forall_eq, e_shl, e_bit, e_b0, e_b1, e_bn, e_andn, fa_or, fa_and, e_m1, e_nneg]
    repeat (first | refine And.intro (fun hh => absurd hh (by omega)) (fun _ => ?_) | refine And.intro (fun _ => ?_) (fun hh => absurd hh (by omega)) | refine And.intro (by omega) ?_)
    refine for_X11_different_L37 _ _ _ (2 ^ k) (fun i f' => 1 ≤ i ∧ (∀ j, j < n → f' j = DT fr k (n - 1) j) ∧ f' n = DS fr k (DT fr k (n - 1)) n (i - 1)) ?_ ?_ (1) _ _ rfl (by omega) (⟨Nat.le_refl _, fun j hj => by rw [pk_uLn (by omega)]; exact hJ j hj, pk_uLs⟩)
    · rintro again2 i f' hi ⟨hi1, g1, g2⟩ hag2
      have hp := (pc_tab i (by omega) (by omega)).2.2.1
      have hp6 := pc_le i
      have e3 : DS fr k (DT fr k (n - 1)) n (i + 1 - 1) = DS fr k (DT fr k (n - 1)) n (i - 1) + (if cq fr k i = true ∧ pc i ≤ n then sg (pc i) (DT fr k (n - 1) (n - pc i)) else 0) := by
        have : DS fr k (DT fr k (n - 1)) n (i - 1 + 1) = DS fr k (DT fr k (n - 1)) n (i - 1) + (if cq fr k (i - 1 + 1) = true ∧ pc (i - 1 + 1) ≤ n then sg (pc (i - 1 + 1)) (DT fr k (n - 1) (n - pc (i - 1 + 1))) else 0) := rfl
        rw [show i - 1 + 1 = i by omega] at this
        rw [show i + 1 - 1 = i by omega]
        exact this
      have same : ¬ (cq fr k i = true ∧ pc i ≤ n) → again2 (nI (i + 1)) f' := fun q => hag2 _ ⟨by omega, g1, by rw [e3, if_neg q, Int64.add_zero]; exact g2⟩
      unfold wp_X11_different_L37
      try simp (disch := omega) only [k_0, k_1, k_2, k_3, k_4, k_6, k_7, k_10, k_11, k_12, k_13, k_14, k_16, k_32, k_36, k_40, k_41, k_42, k_43, k_49, k_64, k_80, k_96, k_97, k_100, k_109, k_110, k_127, k_128, k_146, k_147, k_160, k_2304, k_4608, k_13824, nI_add, pk_mul, pk_sub, nI_clamp, q_in, nI_ltI, nI_leI, nI_eq, forall_eq, e_shl, e_bit, e_b0, e_b1, e_bn, e_andn, fa_or, fa_and, e_m1, e_nneg]
      rw [hv0]
      try simp (disch := omega) only [k_0, k_1, k_2, k_3, k_4, k_6, k_7, k_10, k_11, k_12, k_13, k_14, k_16, k_32, k_36, k_40, k_41, k_42, k_43, k_49, k_64, k_80, k_96, k_97, k_100, k_109, k_110, k_127, k_128, k_146, k_147, k_160, k_2304, k_4608, k_13824, nI_add, pk_mul, pk_sub, nI_clamp, q_in, nI_ltI, nI_leI, nI_eq, forall_eq, e_shl, e_bit, e_b0, e_b1, e_bn, e_andn, fa_or, fa_and, e_m1, e_nneg]
      repeat (first | refine And.intro (fun hh => absurd hh (by omega)) (fun _ => ?_) | refine And.intro (fun _ => ?_) (fun hh => absurd hh (by omega)) | refine And.intro (by omega) ?_)
      refine s_size (by omega) ?_
      try simp (disch := omega) only [k_0, k_1, k_2, k_3, k_4, k_6, k_7, k_10, k_11, k_12, k_13, k_14, k_16, k_32, k_36, k_40, k_41, k_42, k_43, k_49, k_64, k_80, k_96, k_97, k_100, k_109, k_110, k_127, k_128, k_146, k_147, k_160, k_2304, k_4608, k_13824, nI_add, pk_mul, pk_sub, nI_clamp, q_in, nI_ltI, nI_leI, nI_eq, forall_eq, e_shl, e_bit, e_b0, e_b1, e_bn, e_andn, fa_or, fa_and, e_m1, e_nneg]
      refine ⟨fun q => same (by rintro ⟨-, q2⟩; omega), fun q => s_cliqueR hv0 hf hfl hk (by omega) ?_⟩
      cases hc : cq fr k i with
      | false => exact br_t (by decide) (same (by rintro ⟨q2, -⟩; rw [hc] at q2; cases q2))
      | true =>
        have hok : cq fr k i = true ∧ pc i ≤ n := ⟨hc, by omega⟩
        have upd : ∀ x, x = sg (pc i) (DT fr k (n - 1) (n - pc i)) → again2 (nI (i + 1)) (vp_updL f' n (f' n + x)) := fun x hx => hag2 _ ⟨by omega, fun j hj => by rw [pk_uLn (by omega)]; exact g1 j hj, by rw [pk_uLs, e3, if_pos hok, g2, hx]⟩
        refine br_f (by decide) ?_
        rw [pk_rem (by omega) (by decide) (by decide)]
        try simp (disch := omega) only [k_0, k_1, k_2, k_3, k_4, k_6, k_7, k_10, k_11, k_12, k_13, k_14, k_16, k_32, k_36, k_40, k_41, k_42, k_43, k_49, k_64, k_80, k_96, k_97, k_100, k_109, k_110, k_127, k_128, k_146, k_147, k_160, k_2304, k_4608, k_13824, nI_add, pk_mul, pk_sub, nI_clamp, q_in, nI_ltI, nI_leI, nI_eq, forall_eq, e_shl, e_bit, e_b0, e_b1, e_bn, e_andn, fa_or, fa_and, e_m1, e_nneg]
        rw [g1 (n - pc i) (by omega)]
        refine ⟨by omega, fun q2 => ⟨by omega, by omega, upd _ ?_⟩, fun q2 => ⟨by omega, by omega, upd _ ?_⟩⟩
        · unfold sg
          rw [if_neg q2]
        · unfold sg
          rw [if_pos q2]
    · rintro again2 f' ⟨hi1, g1, g2⟩
      unfold wp_X11_different_L37
      try simp (disch := omega) only [k_0, k_1, k_2, k_3, k_4, k_6, k_7, k_10, k_11, k_12, k_13, k_14, k_16, k_32, k_36, k_40, k_41, k_42, k_43, k_49, k_64, k_80, k_96, k_97, k_100, k_109, k_110, k_127, k_128, k_146, k_147, k_160, k_2304, k_4608, k_13824, nI_add, pk_mul, pk_sub, nI_clamp, q_in, nI_ltI, nI_leI, nI_eq, forall_eq, e_shl, e_bit, e_b0, e_b1, e_bn, e_andn, fa_or, fa_and, e_m1, e_nneg]
      rw [hv0]
      try simp (disch := omega) only [k_0, k_1, k_2, k_3, k_4, k_6, k_7, k_10, k_11, k_12, k_13, k_14, k_16, k_32, k_36, k_40, k_41, k_42, k_43, k_49, k_64, k_80, k_96, k_97, k_100, k_109, k_110, k_127, k_128, k_146, k_147, k_160, k_2304, k_4608, k_13824, nI_add, pk_mul, pk_sub, nI_clamp, q_in, nI_ltI, nI_leI, nI_eq, forall_eq, e_shl, e_bit, e_b0, e_b1, e_bn, e_andn, fa_or, fa_and, e_m1, e_nneg]
      repeat (first | refine And.intro (fun hh => absurd hh (by omega)) (fun _ => ?_) | refine And.intro (fun _ => ?_) (fun hh => absurd hh (by omega)) | refine And.intro (by omega) ?_)
      refine hag _ ⟨by omega, fun j hj => ?_⟩
      have e4 := DT_s fr k (n - 1) j
      rw [show n - 1 + 1 = n by omega] at e4
      rw [show n + 1 - 1 = n by omega, e4]
      by_cases e : j = n
      · subst e
        rw [if_pos rfl]
        exact g2
      · rw [if_neg e]
        exact g1 j (by omega)
  · rintro again f ⟨h1, hJ⟩
    unfold wp_X11_different_L23
    try simp (disch := omega) only [k_0, k_1, k_2, k_3, k_4, k_6, k_7, k_10, k_11, k_12, k_13, k_14, k_16, k_32, k_36, k_40, k_41, k_42, k_43, k_49, k_64, k_80, k_96, k_97, k_100, k_109, k_110, k_127, k_128, k_146, k_147, k_160, k_2304, k_4608, k_13824, nI_add, pk_mul, pk_sub, nI_clamp, q_in, nI_ltI, nI_leI, nI_eq, forall_eq, e_shl, e_bit, e_b0, e_b1, e_bn, e_andn, fa_or, fa_and, e_m1, e_nneg]
    repeat (first | refine And.intro (fun hh => absurd hh (by omega)) (fun _ => ?_) | refine And.intro (fun _ => ?_) (fun hh => absurd hh (by omega)) | refine And.intro (by omega) ?_)
    rw [hJ L (by omega)]
    exact hK _
theorem M_different {A_now_alphabet_count : Int32} {A_now_alphabet_free : Nat → Int32} {A_now_words_size : Nat → Int32} {A_now_words_letters : Nat → Nat → Int32} {A_now_recogniser_states : Int32} {A_now_recogniser_accepting : Int32} {A_now_recogniser_arrows : Nat → Int32} {B_v : Nat → Int32} {B_many : Nat → Int64} (x1 : Int32) (hR : REL A_now_alphabet_count A_now_alphabet_free A_now_words_size A_now_words_letters A_now_recogniser_states A_now_recogniser_accepting A_now_recogniser_arrows B_v) {K : Int64 → Prop} (hK : ∀ (r : Int64), (∀ Q : Int64 → (Nat → Int64) → Prop, (∀ B_many', Q r B_many') → wp_X11_different B_v B_many x1 Q) → K r) : wp_X10_different A_now_alphabet_count A_now_alphabet_free x1 K := by
  have hR0 := hR
  obtain ⟨k, fr, W, n, ar, ac, hS, hA, hB⟩ := hR
  have hS0 := hS
  have hA0 := hA
  have hB0 := hB
  obtain ⟨hFR, hWS, hn1, hn6, har, hacl⟩ := hS
  obtain ⟨rfl, hF, hW, rfl, rfl, hAr⟩ := hA
  obtain ⟨hk0, hV, hWV, hn0, hac0, hArV, hAr6⟩ := hB
  have hk6 := hFR.2.1
  have hk2 := hFR.1
  have irr := hFR.irr
  have sym := hFR.sym
  unfold wp_X10_different
  by_cases h1 : x1 < 0
  · refine br_t h1 ?_
    apply hK
    intro Q hQ
    unfold wp_X11_different
    refine s_inN (Or.inl h1) ?_
    (first | refine br_t (by decide) ?_ | refine br_f (by decide) ?_ | refine br_t' (by decide) ?_ | refine br_f' (by decide) ?_)
    first | (apply hQ; done) | (apply hQ; exact hR0)
  · refine br_f h1 ?_
    by_cases h2 : x1 ≤ 16
    · obtain ⟨m, hm, rfl⟩ := nI_of2 (n := 16) (by decide) h1 h2
      refine br_t h2 (s_countDifferent hF hk6 hm ?_)
      apply hK
      intro Q hQ
      exact s_differentR hk0 hV hFR.lt6 hk6 hm hQ
    · refine br_f h2 ?_
      apply hK
      intro Q hQ
      unfold wp_X11_different
      refine s_inN (Or.inr (fa_of_nle h2)) ?_
      (first | refine br_t (by decide) ?_ | refine br_f (by decide) ?_ | refine br_t' (by decide) ?_ | refine br_f' (by decide) ?_)
      first | (apply hQ; done) | (apply hQ; exact hR0)
