/-! how many words lead to each state -/
def pasT (u : List Nat) (ar : Nat → Nat → Nat) (b x : Nat) (ws : Nat → Int64) (n : Nat) : Nat → Int64 := fld (fun q s => vp_updL s (6 * (b + wt u x) + ar q x) (s (6 * (b + wt u x) + ar q x) + s (6 * b + q))) ws n
theorem pasT_s (u : List Nat) (ar : Nat → Nat → Nat) (b x : Nat) (ws : Nat → Int64) (n : Nat) : pasT u ar b x ws (n + 1) = vp_updL (pasT u ar b x ws n) (6 * (b + wt u x) + ar n x) (pasT u ar b x ws n (6 * (b + wt u x) + ar n x) + pasT u ar b x ws n (6 * b + n)) := rfl
noncomputable def rowT (fr : Nat → Nat) (u : List Nat) (n : Nat) (ar : Nat → Nat → Nat) (b : Nat) (ws : Nat → Int64) (k : Nat) : Nat → Int64 := fld (fun x s => if cc fr u b x then pasT u ar b x s n else s) ws k
noncomputable def allT (fr : Nat → Nat) (k : Nat) (u : List Nat) (n : Nat) (ar : Nat → Nat → Nat) (p : Nat) : Nat → Int64 := fld (fun b s => rowT fr u n ar b s k) (fun i => if i = 0 then 1 else 0) p
theorem pasT_out {u : List Nat} {ar : Nat → Nat → Nat} {b x : Nat} {ws : Nat → Int64} {i : Nat} : ∀ {n : Nat}, (∀ q, q < n → i ≠ 6 * (b + wt u x) + ar q x) → pasT u ar b x ws n i = ws i
  | 0, _ => rfl
  | n + 1, h => by rw [pasT_s, pk_uLn (h n (by omega)), pasT_out (fun q hq => h q (by omega))]
theorem pasT_zero {u : List Nat} {ar : Nat → Nat → Nat} {b x : Nat} {ws : Nat → Int64} (h6 : ∀ q, ar q x < 6 ∨ True) : ∀ {n : Nat}, n ≤ 6 → (∀ q, q < n → ws (6 * b + q) = 0) → pasT u ar b x ws n = ws
  | 0, _, _ => rfl
  | n + 1, hn, h => by
    rw [pasT_s, pasT_zero h6 (by omega) (fun q hq => h q (by omega)), h n (by omega), Int64.add_zero]
    funext j
    by_cases e : j = 6 * (b + wt u x) + ar n x
    · subst e; exact pk_uLs
    · exact pk_uLn e
/-- both tables agree below 6 N -/
def AG (u : List Nat) (t ws : Nat → Int64) : Prop := ∀ i, i < 6 * wt u 6 → t i = ws i
theorem s_countAt {t ws : Nat → Int64} {u : List Nat} (hN : wt u 6 ≤ 2304) (h : AG u t ws) {b q : Nat} (hb : b < wt u 6) (hq : q < 6) {K : Int64 → Prop} (hK : K (ws (6 * b + q))) : wp_X1_countAt t (nI b) (nI q) K := by
  unfold wp_X1_countAt
  try simp (disch := omega) only [k_0, k_1, k_2, k_3, k_4, k_6, k_7, k_10, k_11, k_12, k_13, k_14, k_16, k_32, k_36, k_40, k_41, k_42, k_43, k_49, k_64, k_80, k_96, k_97, k_100, k_109, k_110, k_127, k_128, k_146, k_147, k_160, k_2304, k_4608, k_13824, nI_add, pk_mul, pk_sub, nI_clamp, q_in, nI_ltI, nI_leI, nI_eq, forall_eq, e_shl, e_bit, e_b0, e_b1, e_bn, e_andn, fa_or, fa_and, e_m1, e_nneg]
  repeat (first | refine And.intro (fun hh => absurd hh (by omega)) (fun _ => ?_) | refine And.intro (fun _ => ?_) (fun hh => absurd hh (by omega)) | refine And.intro (by omega) ?_)
  rw [show b * 6 + q = 6 * b + q by omega, h _ (by omega)]
  exact hK
theorem s_pass {t ws : Nat → Int64} {arr : Nat → Int32} {u : List Nat} {n : Nat} {ar : Nat → Nat → Nat} (hN : wt u 6 ≤ 2304) (hn : n ≤ 6) (hA : ∀ q x, q < n → x < 6 → arr (q * 6 + x) = nI (ar q x)) (har : ∀ q x, q < n → x < 6 → ar q x < n) (h : AG u t ws) {b x : Nat} (hb : b < wt u 6) (hx : x < 6) (hbx : b + wt u x < wt u 6) {K : (Nat → Int64) → Prop} (hK : ∀ t', AG u t' (pasT u ar b x ws n) → K t') : wp_X1_pass t (nI n) arr (nI b) (nI (b + wt u x)) (nI x) K := by
  unfold wp_X1_pass
  refine for_X1_pass_L3 _ _ _ _ _ _ (n) (fun q t => AG u t (pasT u ar b x ws q)) ?_ ?_ (0) _ _ rfl (Nat.zero_le _) (h)
  · intro again q t hq hJ hag
    have ha := har q x hq hx
    unfold wp_X1_pass_L3
    try simp (disch := omega) only [k_0, k_1, k_2, k_3, k_4, k_6, k_7, k_10, k_11, k_12, k_13, k_14, k_16, k_32, k_36, k_40, k_41, k_42, k_43, k_49, k_64, k_80, k_96, k_97, k_100, k_109, k_110, k_127, k_128, k_146, k_147, k_160, k_2304, k_4608, k_13824, nI_add, pk_mul, pk_sub, nI_clamp, q_in, nI_ltI, nI_leI, nI_eq, forall_eq, e_shl, e_bit, e_b0, e_b1, e_bn, e_andn, fa_or, fa_and, e_m1, e_nneg]
    repeat (first | refine And.intro (fun hh => absurd hh (by omega)) (fun _ => ?_) | refine And.intro (fun _ => ?_) (fun hh => absurd hh (by omega)) | refine And.intro (by omega) ?_)
    refine s_countAt hN hJ hb (by omega) (s_step hn hA hq hx ?_)
    try simp (disch := omega) only [k_0, k_1, k_2, k_3, k_4, k_6, k_7, k_10, k_11, k_12, k_13, k_14, k_16, k_32, k_36, k_40, k_41, k_42, k_43, k_49, k_64, k_80, k_96, k_97, k_100, k_109, k_110, k_127, k_128, k_146, k_147, k_160, k_2304, k_4608, k_13824, nI_add, pk_mul, pk_sub, nI_clamp, q_in, nI_ltI, nI_leI, nI_eq, forall_eq, e_shl, e_bit, e_b0, e_b1, e_bn, e_andn, fa_or, fa_and, e_m1, e_nneg]
    rw [pasT_s] at hag
    refine ⟨fun q0 => hag _ (fun i hi => ?_), fun q0 => ?_⟩
    · have q1 := lgc.mp q0
      have q2 : pasT u ar b x ws q (6 * b + q) = 0 := q1
      by_cases e : i = 6 * (b + wt u x) + ar q x
      · subst e; rw [pk_uLs, q2, Int64.add_zero]; exact hJ _ hi
      · rw [pk_uLn e]; exact hJ i hi
    · repeat (first | refine And.intro (fun hh => absurd hh (by omega)) (fun _ => ?_) | refine And.intro (fun _ => ?_) (fun hh => absurd hh (by omega)) | refine And.intro (by omega) ?_)
      refine hag _ (fun i hi => ?_)
      rw [show (b + wt u x) * 6 + ar q x = 6 * (b + wt u x) + ar q x by omega]
      by_cases e : i = 6 * (b + wt u x) + ar q x
      · subst e; rw [pk_uLs, pk_uLs, hJ _ hi]
      · rw [pk_uLn e, pk_uLn e]; exact hJ i hi
  · intro again t hJ
    unfold wp_X1_pass_L3
    try simp (disch := omega) only [k_0, k_1, k_2, k_3, k_4, k_6, k_7, k_10, k_11, k_12, k_13, k_14, k_16, k_32, k_36, k_40, k_41, k_42, k_43, k_49, k_64, k_80, k_96, k_97, k_100, k_109, k_110, k_127, k_128, k_146, k_147, k_160, k_2304, k_4608, k_13824, nI_add, pk_mul, pk_sub, nI_clamp, q_in, nI_ltI, nI_leI, nI_eq, forall_eq, e_shl, e_bit, e_b0, e_b1, e_bn, e_andn, fa_or, fa_and, e_m1, e_nneg]
    repeat (first | refine And.intro (fun hh => absurd hh (by omega)) (fun _ => ?_) | refine And.intro (fun _ => ?_) (fun hh => absurd hh (by omega)) | refine And.intro (by omega) ?_)
    exact hK _ hJ
theorem rowT_s (fr : Nat → Nat) (u : List Nat) (n : Nat) (ar : Nat → Nat → Nat) (b : Nat) (ws : Nat → Int64) (k : Nat) : rowT fr u n ar b ws (k + 1) = if cc fr u b k then pasT u ar b k (rowT fr u n ar b ws k) n else rowT fr u n ar b ws k := rfl
theorem allT_s (fr : Nat → Nat) (k : Nat) (u : List Nat) (n : Nat) (ar : Nat → Nat → Nat) (p : Nat) : allT fr k u n ar (p + 1) = rowT fr u n ar p (allT fr k u n ar p) k := rfl
/-- what is reached, and what isn't is 0 -/
def ZR (u : List Nat) (R : Nat → Bool) (ws : Nat → Int64) : Prop := ∀ b, b < wt u 6 → R b = false → ∀ q, q < 6 → ws (6 * b + q) = 0
theorem rowT_zero {fr : Nat → Nat} {u : List Nat} {n : Nat} {ar : Nat → Nat → Nat} {b : Nat} {ws : Nat → Int64} (hn : n ≤ 6) (h : ∀ q, q < 6 → ws (6 * b + q) = 0) : ∀ k, rowT fr u n ar b ws k = ws
  | 0 => rfl
  | k + 1 => by
    rw [rowT_s, rowT_zero hn h k]
    split
    · exact pasT_zero (fun _ => Or.inr trivial) hn (fun q hq => h q (by omega))
    · rfl
theorem s_spread {last : Int32} {ways : Nat → Int64} {t w bA pA lA yA arr : Nat → Int32} {fr : Nat → Nat} {k : Nat} {u : List Nat} {n : Nat} {ar : Nat → Nat → Nat} (irr : ∀ a, ind fr a a = false) (sym : ∀ a b, ind fr a b = ind fr b a) (hk : k ≤ 6) (hu : ∀ x ∈ u, x < k) (h16 : u.length ≤ 16) (hN : wt u 6 ≤ 2304) (hn : n ≤ 6) (hA : ∀ q x, q < n → x < 6 → arr (q * 6 + x) = nI (ar q x)) (har : ∀ q x, q < n → x < 6 → ar q x < n) (hP : PL fr u u.length lA yA bA pA) (hT : TA u t (fun b => decide (b = 0))) (hG : WG u w) {pt : Int32} {K : Int32 → (Nat → Int64) → Int32 → (Nat → Int32) → Prop} (hK : ∀ ways p t, AG u ways (allT fr k u n ar (wt u 6)) → K (nI (wt u 6 - 1)) ways p t) : wp_X1_spread last ways (nI k) (nI (wt u 6)) pt bA pA t w (nI n) arr K := by
  have hp6 := wt_pos u 6
  unfold wp_X1_spread
  refine for_X1_spread_L2 _ _ (wt u 6 * 6) (fun i t => ∀ j, j < i → t j = 0) ?_ ?_ (0) _ _ rfl (Nat.zero_le _) (fun j hj => absurd hj (Nat.not_lt_zero _))
  · intro again i t hi hJ hag
    unfold wp_X1_spread_L2
    try simp (disch := omega) only [k_0, k_1, k_2, k_3, k_4, k_6, k_7, k_10, k_11, k_12, k_13, k_14, k_16, k_32, k_36, k_40, k_41, k_42, k_43, k_49, k_64, k_80, k_96, k_97, k_100, k_109, k_110, k_127, k_128, k_146, k_147, k_160, k_2304, k_4608, k_13824, nI_add, pk_mul, pk_sub, nI_clamp, q_in, nI_ltI, nI_leI, nI_eq, forall_eq, e_shl, e_bit, e_b0, e_b1, e_bn, e_andn, fa_or, fa_and, e_m1, e_nneg]
    repeat (first | refine And.intro (fun hh => absurd hh (by omega)) (fun _ => ?_) | refine And.intro (fun _ => ?_) (fun hh => absurd hh (by omega)) | refine And.intro (by omega) ?_)
    refine hag _ (fun j hj => ?_)
    by_cases e : j = i
    · subst e; exact pk_uLs
    · rw [pk_uLn e]; exact hJ j (by omega)
  intro again t0 hJ0
  have fin : wp_X1_spread_J35 K t0 (nI k) (nI (wt u 6)) pt bA pA t w (nI n) arr := by
    unfold wp_X1_spread_J35
    refine ⟨(q_in (n := 0) (by decide)).mpr (by decide), ?_⟩
    rw [k_1, pk_sub (by omega)]
    refine for_X1_spread_L54 _ _ _ _ _ _ _ _ (wt u 6) (fun p wy pt t => ∃ R, TA u t R ∧ AG u wy (allT fr k u n ar p) ∧ ZR u R (allT fr k u n ar p)) ?_ ?_ (0) _ _ _ _ rfl (Nat.zero_le _) (⟨_, hT, fun i hi => ?_, fun b hb hR q hq => ?_⟩)
    · rintro again2 p wy pt t hp ⟨R, gT, gA, gZ⟩ hag
      unfold wp_X1_spread_L54
      try simp (disch := omega) only [k_0, k_1, k_2, k_3, k_4, k_6, k_7, k_10, k_11, k_12, k_13, k_14, k_16, k_32, k_36, k_40, k_41, k_42, k_43, k_49, k_64, k_80, k_96, k_97, k_100, k_109, k_110, k_127, k_128, k_146, k_147, k_160, k_2304, k_4608, k_13824, nI_add, pk_mul, pk_sub, nI_clamp, q_in, nI_ltI, nI_leI, nI_eq, forall_eq, e_shl, e_bit, e_b0, e_b1, e_bn, e_andn, fa_or, fa_and, e_m1, e_nneg]
      repeat (first | refine And.intro (fun hh => absurd hh (by omega)) (fun _ => ?_) | refine And.intro (fun _ => ?_) (fun hh => absurd hh (by omega)) | refine And.intro (by omega) ?_)
      by_cases hRp : R p = true
      · refine for_X1_spread_L65 _ _ _ _ _ _ _ _ _ (k) (fun x wy pt t => ∃ R, R p = true ∧ TA u t R ∧ AG u wy (rowT fr u n ar p (allT fr k u n ar p) x) ∧ ZR u R (rowT fr u n ar p (allT fr k u n ar p) x)) ?_ ?_ (0) _ _ _ _ rfl (Nat.zero_le _) (⟨R, hRp, gT, gA, gZ⟩)
        · rintro again3 x wy2 pt2 t2 hx ⟨R2, r1, r2, r3, r4⟩ hag3
          unfold wp_X1_spread_L65
          try simp (disch := omega) only [k_0, k_1, k_2, k_3, k_4, k_6, k_7, k_10, k_11, k_12, k_13, k_14, k_16, k_32, k_36, k_40, k_41, k_42, k_43, k_49, k_64, k_80, k_96, k_97, k_100, k_109, k_110, k_127, k_128, k_146, k_147, k_160, k_2304, k_4608, k_13824, nI_add, pk_mul, pk_sub, nI_clamp, q_in, nI_ltI, nI_leI, nI_eq, forall_eq, e_shl, e_bit, e_b0, e_b1, e_bn, e_andn, fa_or, fa_and, e_m1, e_nneg]
          repeat (first | refine And.intro (fun hh => absurd hh (by omega)) (fun _ => ?_) | refine And.intro (fun _ => ?_) (fun hh => absurd hh (by omega)) | refine And.intro (by omega) ?_)
          refine s_grow irr sym hu hP r2 hG hN hp (by omega) h16 (fun _ hcc p2 t' ht' => ?_) (fun hno p2 => br_t rfl ?_)
          · have hlt := cc_lt irr sym hu hp (by omega) hcc
            have hw0 := wt_pos u x
            refine br_f (by rw [q_m1 (by omega)]; exact id) (s_pass hN hn hA har r3 hp (by omega) hlt (fun t3 ht3 => ?_))
            refine hag3 _ _ _ ⟨_, by rw [r1]; rfl, ht', ?_, ?_⟩
            · rw [rowT_s, if_pos hcc]; exact ht3
            · intro b hb hR q hq
              rw [Bool.or_eq_false_iff, decide_eq_false_iff_not] at hR
              rw [rowT_s, if_pos hcc, pasT_out (fun q2 hq2 => by have := har q2 x hq2 (by omega); omega)]
              exact r4 b hb hR.1 q hq
          · have hno2 : ¬ cc fr u p x = true := fun q => hno ⟨r1, q⟩
            refine hag3 _ _ _ ⟨R2, r1, r2, ?_, ?_⟩
            · rw [rowT_s, if_neg hno2]; exact r3
            · rw [rowT_s, if_neg hno2]; exact r4
        · rintro again3 wy2 pt2 t2 ⟨R2, r1, r2, r3, r4⟩
          unfold wp_X1_spread_L65
          try simp (disch := omega) only [k_0, k_1, k_2, k_3, k_4, k_6, k_7, k_10, k_11, k_12, k_13, k_14, k_16, k_32, k_36, k_40, k_41, k_42, k_43, k_49, k_64, k_80, k_96, k_97, k_100, k_109, k_110, k_127, k_128, k_146, k_147, k_160, k_2304, k_4608, k_13824, nI_add, pk_mul, pk_sub, nI_clamp, q_in, nI_ltI, nI_leI, nI_eq, forall_eq, e_shl, e_bit, e_b0, e_b1, e_bn, e_andn, fa_or, fa_and, e_m1, e_nneg]
          repeat (first | refine And.intro (fun hh => absurd hh (by omega)) (fun _ => ?_) | refine And.intro (fun _ => ?_) (fun hh => absurd hh (by omega)) | refine And.intro (by omega) ?_)
          exact hag _ _ _ ⟨R2, r2, by rw [allT_s]; exact r3, by rw [allT_s]; exact r4⟩
      · have hRf : R p = false := by
          cases h : R p with
          | false => rfl
          | true => exact absurd h hRp
        have hz := rowT_zero (fr := fr) (u := u) (ar := ar) hn (gZ p hp hRf) k
        refine for_X1_spread_L65 _ _ _ _ _ _ _ _ _ (k) (fun x wy' pt t' => wy' = wy ∧ t' = t) ?_ ?_ (0) _ _ _ _ rfl (Nat.zero_le _) (⟨rfl, rfl⟩)
        · rintro again3 x wy2 pt2 t2 hx ⟨rfl, rfl⟩ hag3
          unfold wp_X1_spread_L65
          try simp (disch := omega) only [k_0, k_1, k_2, k_3, k_4, k_6, k_7, k_10, k_11, k_12, k_13, k_14, k_16, k_32, k_36, k_40, k_41, k_42, k_43, k_49, k_64, k_80, k_96, k_97, k_100, k_109, k_110, k_127, k_128, k_146, k_147, k_160, k_2304, k_4608, k_13824, nI_add, pk_mul, pk_sub, nI_clamp, q_in, nI_ltI, nI_leI, nI_eq, forall_eq, e_shl, e_bit, e_b0, e_b1, e_bn, e_andn, fa_or, fa_and, e_m1, e_nneg]
          repeat (first | refine And.intro (fun hh => absurd hh (by omega)) (fun _ => ?_) | refine And.intro (fun _ => ?_) (fun hh => absurd hh (by omega)) | refine And.intro (by omega) ?_)
          refine s_grow irr sym hu hP gT hG hN hp (by omega) h16 (fun q => absurd q hRp) (fun _ p2 => br_t rfl ?_)
          exact hag3 _ _ _ ⟨rfl, rfl⟩
        · rintro again3 wy2 pt2 t2 ⟨rfl, rfl⟩
          unfold wp_X1_spread_L65
          try simp (disch := omega) only [k_0, k_1, k_2, k_3, k_4, k_6, k_7, k_10, k_11, k_12, k_13, k_14, k_16, k_32, k_36, k_40, k_41, k_42, k_43, k_49, k_64, k_80, k_96, k_97, k_100, k_109, k_110, k_127, k_128, k_146, k_147, k_160, k_2304, k_4608, k_13824, nI_add, pk_mul, pk_sub, nI_clamp, q_in, nI_ltI, nI_leI, nI_eq, forall_eq, e_shl, e_bit, e_b0, e_b1, e_bn, e_andn, fa_or, fa_and, e_m1, e_nneg]
          repeat (first | refine And.intro (fun hh => absurd hh (by omega)) (fun _ => ?_) | refine And.intro (fun _ => ?_) (fun hh => absurd hh (by omega)) | refine And.intro (by omega) ?_)
          exact hag _ _ _ ⟨R, gT, by rw [allT_s, hz]; exact gA, by rw [allT_s, hz]; exact gZ⟩
    · rintro again2 wy pt t ⟨R, gT, gA, gZ⟩
      unfold wp_X1_spread_L54
      try simp (disch := omega) only [k_0, k_1, k_2, k_3, k_4, k_6, k_7, k_10, k_11, k_12, k_13, k_14, k_16, k_32, k_36, k_40, k_41, k_42, k_43, k_49, k_64, k_80, k_96, k_97, k_100, k_109, k_110, k_127, k_128, k_146, k_147, k_160, k_2304, k_4608, k_13824, nI_add, pk_mul, pk_sub, nI_clamp, q_in, nI_ltI, nI_leI, nI_eq, forall_eq, e_shl, e_bit, e_b0, e_b1, e_bn, e_andn, fa_or, fa_and, e_m1, e_nneg]
      repeat (first | refine And.intro (fun hh => absurd hh (by omega)) (fun _ => ?_) | refine And.intro (fun _ => ?_) (fun hh => absurd hh (by omega)) | refine And.intro (by omega) ?_)
      exact hK _ _ _ gA
    · by_cases e : i = 0
      · subst e; exact pk_uLs
      · rw [show (0 : Int32).toNatClampNeg = 0 from rfl, pk_uLn e, hJ0 i (by omega)]
        show 0 = if i = 0 then 1 else 0
        rw [if_neg e]
    · rw [decide_eq_false_iff_not] at hR
      show (if 6 * b + q = 0 then (1 : Int64) else 0) = 0
      rw [if_neg (by omega)]
  unfold wp_X1_spread_L2
  try simp (disch := omega) only [k_0, k_1, k_2, k_3, k_4, k_6, k_7, k_10, k_11, k_12, k_13, k_14, k_16, k_32, k_36, k_40, k_41, k_42, k_43, k_49, k_64, k_80, k_96, k_97, k_100, k_109, k_110, k_127, k_128, k_146, k_147, k_160, k_2304, k_4608, k_13824, nI_add, pk_mul, pk_sub, nI_clamp, q_in, nI_ltI, nI_leI, nI_eq, forall_eq, e_shl, e_bit, e_b0, e_b1, e_bn, e_andn, fa_or, fa_and, e_m1, e_nneg]
  refine ⟨fun _ => fin, fun q => absurd (Nat.le_refl _) q⟩
/-- columns of states that there are not -/
theorem pasT_col {u : List Nat} {ar : Nat → Nat → Nat} {b x m : Nat} {ws : Nat → Int64} (hm : m ≤ 6) (har : ∀ q, q < m → ar q x < m) (h : ∀ i, m ≤ i % 6 → ws i = 0) : ∀ n, n ≤ m → ∀ i, m ≤ i % 6 → pasT u ar b x ws n i = 0 := fun n hn i hi => by
  rw [pasT_out (fun q hq => by have := har q (by omega); omega)]
  exact h i hi
theorem allT_col {fr : Nat → Nat} {k : Nat} {u : List Nat} {n : Nat} {ar : Nat → Nat → Nat} (hn1 : 1 ≤ n) (hn : n ≤ 6) (hk : k ≤ 6) (har : ∀ q x, q < n → x < 6 → ar q x < n) : ∀ p i, n ≤ i % 6 → allT fr k u n ar p i = 0
  | 0, i, hi => by
    show (if i = 0 then (1 : Int64) else 0) = 0
    rw [if_neg (fun e => by rw [e] at hi; simp at hi; omega)]
  | p + 1, i, hi => by
    have row : ∀ x, x ≤ k → ∀ i, n ≤ i % 6 → rowT fr u n ar p (allT fr k u n ar p) x i = 0 := by
      intro x
      induction x with
      | zero => intro _ i hi; exact allT_col hn1 hn hk har p i hi
      | succ x ih =>
        intro hx i hi
        rw [rowT_s]
        split
        · exact pasT_col hn (fun q hq => har q x hq (by omega)) (ih (by omega)) n (Nat.le_refl _) i hi
        · exact ih (by omega) i hi
    rw [allT_s]
    exact row k (Nat.le_refl _) i hi
noncomputable def cA (fr : Nat → Nat) (k : Nat) (u : List Nat) (n : Nat) (ar : Nat → Nat → Nat) (m : Nat) : Int64 := sL (fun q => if m.testBit q then allT fr k u n ar (wt u 6) (6 * (wt u 6 - 1) + q) else 0) n
theorem sL_more {f : Nat → Int64} {n : Nat} : ∀ d, (∀ j, n ≤ j → f j = 0) → sL f (n + d) = sL f n
  | 0, _ => rfl
  | d + 1, h => by rw [← Nat.add_assoc, sL_s, sL_more d h, h _ (by omega), Int64.add_zero]
theorem s_countAll {ways : Nat → Int64} {fr : Nat → Nat} {k : Nat} {u : List Nat} {n : Nat} {ar : Nat → Nat → Nat} (hN : wt u 6 ≤ 2304) (hn1 : 1 ≤ n) (hn : n ≤ 6) (hk : k ≤ 6) (har : ∀ q x, q < n → x < 6 → ar q x < n) (h : AG u ways (allT fr k u n ar (wt u 6))) {K : Int64 → Prop} (hK : K (cA fr k u n ar 63)) : wp_X1_countAll (nI (wt u 6 - 1)) ways K := by
  have hp6 := wt_pos u 6
  have e : ∀ i, i ≤ 6 → sL (fun q => allT fr k u n ar (wt u 6) (6 * (wt u 6 - 1) + q)) i = sL (fun q => if q < 6 then allT fr k u n ar (wt u 6) (6 * (wt u 6 - 1) + q) else 0) i := fun i hi => sL_cong (fun q hq => by rw [if_pos (by omega)])
  unfold wp_X1_countAll
  refine for_X1_countAll_L4 _ _ _ (6) (fun i x => x = sL (fun q => allT fr k u n ar (wt u 6) (6 * (wt u 6 - 1) + q)) i) ?_ ?_ (0) _ _ rfl (Nat.zero_le _) (rfl)
  · rintro again i x hi rfl hag
    unfold wp_X1_countAll_L4
    try simp (disch := omega) only [k_0, k_1, k_2, k_3, k_4, k_6, k_7, k_10, k_11, k_12, k_13, k_14, k_16, k_32, k_36, k_40, k_41, k_42, k_43, k_49, k_64, k_80, k_96, k_97, k_100, k_109, k_110, k_127, k_128, k_146, k_147, k_160, k_2304, k_4608, k_13824, nI_add, pk_mul, pk_sub, nI_clamp, q_in, nI_ltI, nI_leI, nI_eq, forall_eq, e_shl, e_bit, e_b0, e_b1, e_bn, e_andn, fa_or, fa_and, e_m1, e_nneg]
    repeat (first | refine And.intro (fun hh => absurd hh (by omega)) (fun _ => ?_) | refine And.intro (fun _ => ?_) (fun hh => absurd hh (by omega)) | refine And.intro (by omega) ?_)
    refine s_countAt hN h (by omega) hi ?_
    exact hag _ rfl
  · rintro again x rfl
    unfold wp_X1_countAll_L4
    try simp (disch := omega) only [k_0, k_1, k_2, k_3, k_4, k_6, k_7, k_10, k_11, k_12, k_13, k_14, k_16, k_32, k_36, k_40, k_41, k_42, k_43, k_49, k_64, k_80, k_96, k_97, k_100, k_109, k_110, k_127, k_128, k_146, k_147, k_160, k_2304, k_4608, k_13824, nI_add, pk_mul, pk_sub, nI_clamp, q_in, nI_ltI, nI_leI, nI_eq, forall_eq, e_shl, e_bit, e_b0, e_b1, e_bn, e_andn, fa_or, fa_and, e_m1, e_nneg]
    repeat (first | refine And.intro (fun hh => absurd hh (by omega)) (fun _ => ?_) | refine And.intro (fun _ => ?_) (fun hh => absurd hh (by omega)) | refine And.intro (by omega) ?_)
    have e2 : sL (fun q => allT fr k u n ar (wt u 6) (6 * (wt u 6 - 1) + q)) 6 = cA fr k u n ar 63 := by
      rw [e 6 (Nat.le_refl _)]
      have := sL_more (f := fun q => if q < 6 then allT fr k u n ar (wt u 6) (6 * (wt u 6 - 1) + q) else 0) (n := n) (6 - n) (fun j hj => by
        show (if j < 6 then allT fr k u n ar (wt u 6) (6 * (wt u 6 - 1) + j) else 0) = 0
        split
        · exact allT_col hn1 hn hk har _ _ (by omega)
        · rfl)
      rw [show n + (6 - n) = 6 by omega] at this
      rw [this]
      refine sL_cong (fun q hq => ?_)
      rw [if_pos (by omega)]
      have h63 : ∀ q, q < 6 → Nat.testBit 63 q = true := by decide
      rw [if_pos (h63 q (by omega))]
    rw [e2]
    exact hK
theorem s_countAccepted {ways : Nat → Int64} {fr : Nat → Nat} {k : Nat} {u : List Nat} {n ac : Nat} {ar : Nat → Nat → Nat} (hN : wt u 6 ≤ 2304) (hn : n ≤ 6) (h : AG u ways (allT fr k u n ar (wt u 6))) {K : Int64 → Prop} (hK : K (cA fr k u n ar ac)) : wp_X1_countAccepted (nI (wt u 6 - 1)) ways (nI n) (nI ac) K := by
  have hp6 := wt_pos u 6
  unfold wp_X1_countAccepted
  refine for_X1_countAccepted_L5 _ _ _ _ _ (6) (fun i x => x = sL (fun q => if decide (q < n) && ac.testBit q then allT fr k u n ar (wt u 6) (6 * (wt u 6 - 1) + q) else 0) i) ?_ ?_ (0) _ _ rfl (Nat.zero_le _) (rfl)
  · rintro again i x hi rfl hag
    unfold wp_X1_countAccepted_L5
    try simp (disch := omega) only [k_0, k_1, k_2, k_3, k_4, k_6, k_7, k_10, k_11, k_12, k_13, k_14, k_16, k_32, k_36, k_40, k_41, k_42, k_43, k_49, k_64, k_80, k_96, k_97, k_100, k_109, k_110, k_127, k_128, k_146, k_147, k_160, k_2304, k_4608, k_13824, nI_add, pk_mul, pk_sub, nI_clamp, q_in, nI_ltI, nI_leI, nI_eq, forall_eq, e_shl, e_bit, e_b0, e_b1, e_bn, e_andn, fa_or, fa_and, e_m1, e_nneg]
    repeat (first | refine And.intro (fun hh => absurd hh (by omega)) (fun _ => ?_) | refine And.intro (fun _ => ?_) (fun hh => absurd hh (by omega)) | refine And.intro (by omega) ?_)
    refine s_accepts hn hi ?_
    rw [sL_s] at hag
    cases hb : decide (i < n) && ac.testBit i with
    | false =>
      rw [hb, if_neg (by decide), Int64.add_zero] at hag
      exact br_t (by decide) (hag _ rfl)
    | true =>
      rw [hb, if_pos rfl] at hag
      refine br_f (by decide) (s_countAt hN h (by omega) hi ?_)
      exact hag _ rfl
  · rintro again x rfl
    unfold wp_X1_countAccepted_L5
    try simp (disch := omega) only [k_0, k_1, k_2, k_3, k_4, k_6, k_7, k_10, k_11, k_12, k_13, k_14, k_16, k_32, k_36, k_40, k_41, k_42, k_43, k_49, k_64, k_80, k_96, k_97, k_100, k_109, k_110, k_127, k_128, k_146, k_147, k_160, k_2304, k_4608, k_13824, nI_add, pk_mul, pk_sub, nI_clamp, q_in, nI_ltI, nI_leI, nI_eq, forall_eq, e_shl, e_bit, e_b0, e_b1, e_bn, e_andn, fa_or, fa_and, e_m1, e_nneg]
    repeat (first | refine And.intro (fun hh => absurd hh (by omega)) (fun _ => ?_) | refine And.intro (fun _ => ?_) (fun hh => absurd hh (by omega)) | refine And.intro (by omega) ?_)
    have e2 : sL (fun q => if decide (q < n) && ac.testBit q then allT fr k u n ar (wt u 6) (6 * (wt u 6 - 1) + q) else 0) 6 = cA fr k u n ar ac := by
      have := sL_more (f := fun q => if decide (q < n) && ac.testBit q then allT fr k u n ar (wt u 6) (6 * (wt u 6 - 1) + q) else 0) (n := n) (6 - n) (fun j hj => by
        show (if (decide (j < n) && ac.testBit j) = true then _ else _) = _
        rw [decide_eq_false (by omega), Bool.false_and, if_neg (by decide)])
      rw [show n + (6 - n) = 6 by omega] at this
      rw [this]
      refine sL_cong (fun q hq => ?_)
      rw [decide_eq_true hq]
      rfl
    rw [e2]
    exact hK
theorem s_countAlike {q1 q2 q3 q4 q5 last : Int32} {ways : Nat → Int64} {free lA yA bA pA tA wA lt arr : Nat → Int32} {fr : Nat → Nat} {k : Nat} {n : Nat} {ar : Nat → Nat → Nat} (irr : ∀ a, ind fr a a = false) (sym : ∀ a b, ind fr a b = ind fr b a) (hf : FA free fr) (hk : k ≤ 6) {u : List Nat} (hW : WR (nI u.length) lt u) (hu : ∀ x ∈ u, x < k) (h16 : u.length ≤ 16) (hn : n ≤ 6) (hA : ∀ q x, q < n → x < 6 → arr (q * 6 + x) = nI (ar q x)) (har : ∀ q x, q < n → x < 6 → ar q x < n) {K : Int32 → Int32 → Int32 → Int32 → Int32 → (Nat → Int32) → (Nat → Int32) → (Nat → Int32) → (Nat → Int32) → (Nat → Int32) → (Nat → Int32) → Int32 → (Nat → Int64) → Prop} (hK : ∀ s1 s2 s3 s4 s5 a b c d t w wy, AG u wy (allT fr k u n ar (wt u 6)) → K s1 s2 s3 s4 s5 a b c d t w (nI (wt u 6 - 1)) wy) : wp_X10_countAlike (nI k) free (nI n) arr q1 q2 q3 q4 q5 lA yA bA pA tA wA last ways (nI u.length) lt K := by
  have hu6 : ∀ x ∈ u, x < 6 := fun x hx => Nat.lt_of_lt_of_le (hu x hx) hk
  unfold wp_X10_countAlike
  refine s_begin4 hf hk hW hu h16 (fun a b c d t w hP hT hG => ?_)
  exact s_spread irr sym hk hu h16 (wt_le hu6 h16) hn hA har hP hT hG (fun wy p t hAG => hK _ _ _ _ _ _ _ _ _ _ _ _ hAG)
