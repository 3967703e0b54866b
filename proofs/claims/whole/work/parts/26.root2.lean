/-! roots and exponents in the reference -/
theorem s_isPower {v one other gone hts : Nat → Int32} {ol tl : Int32} {fr : Nat → Nat} {u : List Nat} {w : Nat} (irr : ∀ a, ind fr a a = false) (hf : FV v fr) (hw : w < 6) (hV : WV v w u) (hu : ∀ x ∈ u, x < 6) {e : Nat} (h1 : 1 ≤ e) (h2 : e ≤ u.length) {K : Int32 → Int32 → Int32 → (Nat → Int32) → (Nat → Int32) → (Nat → Int32) → (Nat → Int32) → Prop} (hy : PW fr u e → ∀ tl o t g h, RW o (rt u e) → K 1 (nI (rt u e).length) tl o t g h) (hn : ¬ PW fr u e → ∀ s tl o t g h, K 0 s tl o t g h) : wp_X11_isPower ol tl v one other gone hts (nI w) (nI e) K := by
  have h16 := hV.2.1
  have hc : ∀ x i, cntB u x i ≤ i := fun x i => cntB_le u x i
  unfold wp_X11_isPower
  refine s_takesOther hw hV (fun ot ho => ?_)
  refine for_X11_isPower_L7 _ (6) (fun i h => ∀ x, x < i → h x = nI 0) ?_ ?_ (0) _ _ rfl (Nat.zero_le _) (fun x hx => absurd hx (Nat.not_lt_zero _))
  · intro again i h hi hJ hag
    unfold wp_X11_isPower_L7
    try simp (disch := omega) only [k_0, k_1, k_2, k_3, k_4, k_6, k_7, k_10, k_11, k_12, k_13, k_14, k_16, k_32, k_36, k_40, k_41, k_42, k_43, k_49, k_64, k_80, k_96, k_97, k_100, k_109, k_110, k_127, k_128, k_146, k_147, k_160, k_2304, k_4608, k_13824, nI_add, pk_mul, pk_sub, nI_clamp, q_in, nI_ltI, nI_leI, nI_eq, forall_eq, e_shl, e_bit, e_b0, e_b1, e_bn, e_andn, fa_or, fa_and, e_m1, e_nneg]
    repeat (first | refine And.intro (fun hh => absurd hh (by omega)) (fun _ => ?_) | refine And.intro (fun _ => ?_) (fun hh => absurd hh (by omega)) | refine And.intro (by omega) ?_)
    refine hag _ (fun x hx => ?_)
    by_cases ex : x = i
    · subst ex; exact pk_us
    · rw [pk_un ex]; exact hJ x (by omega)
  intro again h hJ
  unfold wp_X11_isPower_L7
  try simp (disch := omega) only [k_0, k_1, k_2, k_3, k_4, k_6, k_7, k_10, k_11, k_12, k_13, k_14, k_16, k_32, k_36, k_40, k_41, k_42, k_43, k_49, k_64, k_80, k_96, k_97, k_100, k_109, k_110, k_127, k_128, k_146, k_147, k_160, k_2304, k_4608, k_13824, nI_add, pk_mul, pk_sub, nI_clamp, q_in, nI_ltI, nI_leI, nI_eq, forall_eq, e_shl, e_bit, e_b0, e_b1, e_bn, e_andn, fa_or, fa_and, e_m1, e_nneg]
  repeat (first | refine And.intro (fun hh => absurd hh (by omega)) (fun _ => ?_) | refine And.intro (fun _ => ?_) (fun hh => absurd hh (by omega)) | refine And.intro (by omega) ?_)
  refine for_X11_isPower_L28 _ _ _ (u.length) (fun i h => ∀ x, x < 6 → h x = nI (cntB u x i)) ?_ ?_ (0) _ _ rfl (Nat.zero_le _) (fun x hx => hJ x hx)
  · intro again2 i h2 hi hJ2 hag
    have ui := hu _ (getD_mem hi)
    have c1 := hc (u.getD i 0) i
    unfold wp_X11_isPower_L28
    try simp (disch := omega) only [k_0, k_1, k_2, k_3, k_4, k_6, k_7, k_10, k_11, k_12, k_13, k_14, k_16, k_32, k_36, k_40, k_41, k_42, k_43, k_49, k_64, k_80, k_96, k_97, k_100, k_109, k_110, k_127, k_128, k_146, k_147, k_160, k_2304, k_4608, k_13824, nI_add, pk_mul, pk_sub, nI_clamp, q_in, nI_ltI, nI_leI, nI_eq, forall_eq, e_shl, e_bit, e_b0, e_b1, e_bn, e_andn, fa_or, fa_and, e_m1, e_nneg]
    repeat (first | refine And.intro (fun hh => absurd hh (by omega)) (fun _ => ?_) | refine And.intro (fun _ => ?_) (fun hh => absurd hh (by omega)) | refine And.intro (by omega) ?_)
    rw [ho i hi]
    try simp (disch := omega) only [k_0, k_1, k_2, k_3, k_4, k_6, k_7, k_10, k_11, k_12, k_13, k_14, k_16, k_32, k_36, k_40, k_41, k_42, k_43, k_49, k_64, k_80, k_96, k_97, k_100, k_109, k_110, k_127, k_128, k_146, k_147, k_160, k_2304, k_4608, k_13824, nI_add, pk_mul, pk_sub, nI_clamp, q_in, nI_ltI, nI_leI, nI_eq, forall_eq, e_shl, e_bit, e_b0, e_b1, e_bn, e_andn, fa_or, fa_and, e_m1, e_nneg]
    repeat (first | refine And.intro (fun hh => absurd hh (by omega)) (fun _ => ?_) | refine And.intro (fun _ => ?_) (fun hh => absurd hh (by omega)) | refine And.intro (by omega) ?_)
    rw [hJ2 _ ui]
    try simp (disch := omega) only [k_0, k_1, k_2, k_3, k_4, k_6, k_7, k_10, k_11, k_12, k_13, k_14, k_16, k_32, k_36, k_40, k_41, k_42, k_43, k_49, k_64, k_80, k_96, k_97, k_100, k_109, k_110, k_127, k_128, k_146, k_147, k_160, k_2304, k_4608, k_13824, nI_add, pk_mul, pk_sub, nI_clamp, q_in, nI_ltI, nI_leI, nI_eq, forall_eq, e_shl, e_bit, e_b0, e_b1, e_bn, e_andn, fa_or, fa_and, e_m1, e_nneg]
    refine hag _ (fun x hx => ?_)
    rw [cntB_s]
    by_cases ex : x = u.getD i 0
    · subst ex; rw [pk_us, if_pos rfl]
    · rw [pk_un ex, if_neg (fun q => ex q.symm)]; exact hJ2 x hx
  intro again2 h3 hJ2
  unfold wp_X11_isPower_L28
  try simp (disch := omega) only [k_0, k_1, k_2, k_3, k_4, k_6, k_7, k_10, k_11, k_12, k_13, k_14, k_16, k_32, k_36, k_40, k_41, k_42, k_43, k_49, k_64, k_80, k_96, k_97, k_100, k_109, k_110, k_127, k_128, k_146, k_147, k_160, k_2304, k_4608, k_13824, nI_add, pk_mul, pk_sub, nI_clamp, q_in, nI_ltI, nI_leI, nI_eq, forall_eq, e_shl, e_bit, e_b0, e_b1, e_bn, e_andn, fa_or, fa_and, e_m1, e_nneg]
  repeat (first | refine And.intro (fun hh => absurd hh (by omega)) (fun _ => ?_) | refine And.intro (fun _ => ?_) (fun hh => absurd hh (by omega)) | refine And.intro (by omega) ?_)
  refine for_X11_isPower_L59 _ _ _ (6) (fun i h => (∀ x, x < i → h x = nI (cntB u x u.length / e) ∧ cntB u x u.length % e = 0) ∧ ∀ x, i ≤ x → x < 6 → h x = nI (cntB u x u.length)) ?_ ?_ (0) _ _ rfl (Nat.zero_le _) (⟨fun x hx => absurd hx (Nat.not_lt_zero _), fun x _ hx => hJ2 x hx⟩)
  · rintro again3 i h4 hi ⟨g1, g2⟩ hag
    have c1 := hc i u.length
    have c4 : cntB u i u.length / e ≤ cntB u i u.length := Nat.div_le_self _ _
    have c5 : cntB u i u.length % e < e := Nat.mod_lt _ (by omega)
    unfold wp_X11_isPower_L59
    rw [nI_clamp (by omega), g2 i (Nat.le_refl _) hi, pk_rem (by omega) (by omega) (by omega), pk_div (by omega) (by omega) (by omega)]
    try simp (disch := omega) only [k_0, k_1, k_2, k_3, k_4, k_6, k_7, k_10, k_11, k_12, k_13, k_14, k_16, k_32, k_36, k_40, k_41, k_42, k_43, k_49, k_64, k_80, k_96, k_97, k_100, k_109, k_110, k_127, k_128, k_146, k_147, k_160, k_2304, k_4608, k_13824, nI_add, pk_mul, pk_sub, nI_clamp, q_in, nI_ltI, nI_leI, nI_eq, forall_eq, e_shl, e_bit, e_b0, e_b1, e_bn, e_andn, fa_or, fa_and, e_m1, e_nneg]
    repeat (first | refine And.intro (fun hh => absurd hh (by omega)) (fun _ => ?_) | refine And.intro (fun _ => ?_) (fun hh => absurd hh (by omega)) | refine And.intro (by omega) ?_)
    refine ⟨fun hz => ⟨by omega, by omega, by omega, hag _ ⟨fun x hx => ?_, fun x hx hx6 => ?_⟩⟩, fun hz => hn (fun hp => hz (hp.1 i hi)) _ _ _ _ _ _⟩
    · by_cases ex : x = i
      · subst ex; exact ⟨pk_us, hz⟩
      · rw [pk_un ex]; exact g1 x (by omega)
    · rw [pk_un (by omega)]; exact g2 x (by omega) hx6
  rintro again3 h4 ⟨g1, -⟩
  have hdv : DV u e := fun x hx => (g1 x hx).2
  have hlen := rt_len hu h1 hdv
  unfold wp_X11_isPower_L59
  try simp (disch := omega) only [k_0, k_1, k_2, k_3, k_4, k_6, k_7, k_10, k_11, k_12, k_13, k_14, k_16, k_32, k_36, k_40, k_41, k_42, k_43, k_49, k_64, k_80, k_96, k_97, k_100, k_109, k_110, k_127, k_128, k_146, k_147, k_160, k_2304, k_4608, k_13824, nI_add, pk_mul, pk_sub, nI_clamp, q_in, nI_ltI, nI_leI, nI_eq, forall_eq, e_shl, e_bit, e_b0, e_b1, e_bn, e_andn, fa_or, fa_and, e_m1, e_nneg]
  repeat (first | refine And.intro (fun hh => absurd hh (by omega)) (fun _ => ?_) | refine And.intro (fun _ => ?_) (fun hh => absurd hh (by omega)) | refine And.intro (by omega) ?_)
  refine for_X11_isPower_L101 _ _ _ (u.length) (fun i s o h => s = nI (rtN u e i).length ∧ RW o (rtN u e i) ∧ ∀ x, x < 6 → h x = nI (cntB u x u.length / e - cntB u x i)) ?_ ?_ (0) _ _ _ _ rfl (Nat.zero_le _) (⟨rfl, fun i hi => absurd hi (Nat.not_lt_zero _), fun x hx => (g1 x hx).1⟩)
  · rintro again4 i s o h5 hi ⟨rfl, k1, k2⟩ hag
    have ui := hu _ (getD_mem hi)
    have c1 := hc (u.getD i 0) u.length
    have c4 : cntB u (u.getD i 0) u.length / e ≤ cntB u (u.getD i 0) u.length := Nat.div_le_self _ _
    have c6 := rtN_le u e i
    unfold wp_X11_isPower_L101
    try simp (disch := omega) only [k_0, k_1, k_2, k_3, k_4, k_6, k_7, k_10, k_11, k_12, k_13, k_14, k_16, k_32, k_36, k_40, k_41, k_42, k_43, k_49, k_64, k_80, k_96, k_97, k_100, k_109, k_110, k_127, k_128, k_146, k_147, k_160, k_2304, k_4608, k_13824, nI_add, pk_mul, pk_sub, nI_clamp, q_in, nI_ltI, nI_leI, nI_eq, forall_eq, e_shl, e_bit, e_b0, e_b1, e_bn, e_andn, fa_or, fa_and, e_m1, e_nneg]
    repeat (first | refine And.intro (fun hh => absurd hh (by omega)) (fun _ => ?_) | refine And.intro (fun _ => ?_) (fun hh => absurd hh (by omega)) | refine And.intro (by omega) ?_)
    rw [ho i hi]
    try simp (disch := omega) only [k_0, k_1, k_2, k_3, k_4, k_6, k_7, k_10, k_11, k_12, k_13, k_14, k_16, k_32, k_36, k_40, k_41, k_42, k_43, k_49, k_64, k_80, k_96, k_97, k_100, k_109, k_110, k_127, k_128, k_146, k_147, k_160, k_2304, k_4608, k_13824, nI_add, pk_mul, pk_sub, nI_clamp, q_in, nI_ltI, nI_leI, nI_eq, forall_eq, e_shl, e_bit, e_b0, e_b1, e_bn, e_andn, fa_or, fa_and, e_m1, e_nneg]
    repeat (first | refine And.intro (fun hh => absurd hh (by omega)) (fun _ => ?_) | refine And.intro (fun _ => ?_) (fun hh => absurd hh (by omega)) | refine And.intro (by omega) ?_)
    rw [k2 _ ui]
    try simp (disch := omega) only [k_0, k_1, k_2, k_3, k_4, k_6, k_7, k_10, k_11, k_12, k_13, k_14, k_16, k_32, k_36, k_40, k_41, k_42, k_43, k_49, k_64, k_80, k_96, k_97, k_100, k_109, k_110, k_127, k_128, k_146, k_147, k_160, k_2304, k_4608, k_13824, nI_add, pk_mul, pk_sub, nI_clamp, q_in, nI_ltI, nI_leI, nI_eq, forall_eq, e_shl, e_bit, e_b0, e_b1, e_bn, e_andn, fa_or, fa_and, e_m1, e_nneg]
    rw [rtN_s] at hag
    refine ⟨fun q => ?_, fun q => ⟨by omega, by omega, by omega, by omega, by omega, ?_⟩⟩
    · rw [if_neg (by omega)] at hag
      refine hag _ _ _ ⟨rfl, k1, fun x hx => ?_⟩
      rw [k2 x hx, cntB_s]
      by_cases ex : u.getD i 0 = x
      · subst ex
        rw [if_pos rfl]
        congr 1
        omega
      · rw [if_neg ex]
    · rw [if_pos (by omega)] at hag
      refine hag _ _ _ ⟨by simp, k1.push _, fun x hx => ?_⟩
      rw [cntB_s]
      by_cases ex : x = u.getD i 0
      · subst ex
        rw [pk_us, if_pos rfl, pk_sub (by omega), Nat.sub_sub]
      · rw [pk_un ex, if_neg (fun q2 => ex q2.symm)]; exact k2 x hx
  rintro again4 s o h5 ⟨rfl, k1, -⟩
  have hp0 : 0 < (rt u e).length := by
    rcases Nat.eq_zero_or_pos (rt u e).length with q | q
    · rw [q, Nat.zero_mul] at hlen; omega
    · exact q
  have hle : (rt u e).length ≤ u.length := rtN_le u e u.length
  unfold wp_X11_isPower_L101
  try simp (disch := omega) only [k_0, k_1, k_2, k_3, k_4, k_6, k_7, k_10, k_11, k_12, k_13, k_14, k_16, k_32, k_36, k_40, k_41, k_42, k_43, k_49, k_64, k_80, k_96, k_97, k_100, k_109, k_110, k_127, k_128, k_146, k_147, k_160, k_2304, k_4608, k_13824, nI_add, pk_mul, pk_sub, nI_clamp, q_in, nI_ltI, nI_leI, nI_eq, forall_eq, e_shl, e_bit, e_b0, e_b1, e_bn, e_andn, fa_or, fa_and, e_m1, e_nneg]
  repeat (first | refine And.intro (fun hh => absurd hh (by omega)) (fun _ => ?_) | refine And.intro (fun _ => ?_) (fun hh => absurd hh (by omega)) | refine And.intro (by omega) ?_)
  refine for_X11_isPower_L177 _ _ _ (u.length) (fun i o => (rt u e).length ≤ i ∧ ∀ j, j < i → o j = nI ((rt u e).getD (j % (rt u e).length) 0)) ?_ ?_ ((rt u e).length) _ _ rfl (by omega) (⟨Nat.le_refl _, fun j hj => by rw [Nat.mod_eq_of_lt hj]; exact k1 j hj⟩)
  · rintro again5 i o2 hi ⟨hge, hJ5⟩ hag
    unfold wp_X11_isPower_L177
    have e9 : nI (rtN u e u.length).length = nI (rt u e).length := rfl
    rw [e9]
    try simp (disch := omega) only [k_0, k_1, k_2, k_3, k_4, k_6, k_7, k_10, k_11, k_12, k_13, k_14, k_16, k_32, k_36, k_40, k_41, k_42, k_43, k_49, k_64, k_80, k_96, k_97, k_100, k_109, k_110, k_127, k_128, k_146, k_147, k_160, k_2304, k_4608, k_13824, nI_add, pk_mul, pk_sub, nI_clamp, q_in, nI_ltI, nI_leI, nI_eq, forall_eq, e_shl, e_bit, e_b0, e_b1, e_bn, e_andn, fa_or, fa_and, e_m1, e_nneg]
    repeat (first | refine And.intro (fun hh => absurd hh (by omega)) (fun _ => ?_) | refine And.intro (fun _ => ?_) (fun hh => absurd hh (by omega)) | refine And.intro (by omega) ?_)
    refine hag _ ⟨by omega, fun j hj => ?_⟩
    by_cases ej : j = i
    · subst ej
      rw [pk_us, hJ5 _ (by omega), ← Nat.mod_eq_sub_mod hge]
    · rw [pk_un ej]; exact hJ5 j (by omega)
  · rintro again5 o2 ⟨-, hJ5⟩
    unfold wp_X11_isPower_L177
    try simp (disch := omega) only [k_0, k_1, k_2, k_3, k_4, k_6, k_7, k_10, k_11, k_12, k_13, k_14, k_16, k_32, k_36, k_40, k_41, k_42, k_43, k_49, k_64, k_80, k_96, k_97, k_100, k_109, k_110, k_127, k_128, k_146, k_147, k_160, k_2304, k_4608, k_13824, nI_add, pk_mul, pk_sub, nI_clamp, q_in, nI_ltI, nI_leI, nI_eq, forall_eq, e_shl, e_bit, e_b0, e_b1, e_bn, e_andn, fa_or, fa_and, e_m1, e_nneg]
    repeat (first | refine And.intro (fun hh => absurd hh (by omega)) (fun _ => ?_) | refine And.intro (fun _ => ?_) (fun hh => absurd hh (by omega)) | refine And.intro (by omega) ?_)
    have hrep : RW o2 (rep (rt u e) e) := by
      intro j hj
      rw [rep_len, hlen] at hj
      rw [rep_get (by rw [hlen]; exact hj)]
      exact hJ5 j hj
    have hrl : u.length = (rep (rt u e) e).length := by rw [rep_len, hlen]
    have hrm : ∀ x ∈ rep (rt u e) e, x < 6 := fun x hx => hu x (rtN_mem u e u.length (Nat.le_refl _) x (rep_mem hx))
    have h9 := s_areAlike (v := v) (gone := gone) irr hf hrm hu hrep ho (by omega) (by omega) (K := fun r_17 t_otherLength_18 t_other_19 t_isGone_20 => ((r_17 = nI 0 ∨ r_17 = nI 1) ∧ K r_17 (nI (rtN u e u.length).length) t_otherLength_18 o2 t_other_19 t_isGone_20 h5)) (fun l o g => ⟨bI_01 _, ?_⟩)
    · rw [← hrl] at h9
      exact h9
    · cases hd : dvd (ind fr) (rep (rt u e) e) u == some []
      · refine hn (fun hp => ?_) _ _ _ _ _ _
        rw [hp.2] at hd
        cases hd
      · rw [beq_iff_eq] at hd
        exact hy ⟨hdv, hd⟩ _ _ _ _ _ (fun j hj => by
          rw [hJ5 j (by omega), Nat.mod_eq_of_lt hj])
theorem s_exponentOf {v one other gone hts : Nat → Int32} {ol tl : Int32} {fr : Nat → Nat} {u : List Nat} {w : Nat} (irr : ∀ a, ind fr a a = false) (sym : ∀ a b, ind fr a b = ind fr b a) (hf : FV v fr) (hw : w < 6) (hV : WV v w u) (hu : ∀ x ∈ u, x < 6) (h0 : 1 ≤ u.length) {K : Int32 → Int32 → Int32 → (Nat → Int32) → (Nat → Int32) → (Nat → Int32) → (Nat → Int32) → Prop} (hK : ∀ e tl o t g h, EXP fr u e → RW o (rt u e) → K (nI e) (nI (rt u e).length) tl o t g h) : wp_X11_exponentOf ol tl v one other gone hts (nI w) K := by
  have h16 := hV.2.1
  unfold wp_X11_exponentOf
  try simp (disch := omega) only [k_0, k_1, k_2, k_3, k_4, k_6, k_7, k_10, k_11, k_12, k_13, k_14, k_16, k_32, k_36, k_40, k_41, k_42, k_43, k_49, k_64, k_80, k_96, k_97, k_100, k_109, k_110, k_127, k_128, k_146, k_147, k_160, k_2304, k_4608, k_13824, nI_add, pk_mul, pk_sub, nI_clamp, q_in, nI_ltI, nI_leI, nI_eq, forall_eq, e_shl, e_bit, e_b0, e_b1, e_bn, e_andn, fa_or, fa_and, e_m1, e_nneg]
  repeat (first | refine And.intro (fun hh => absurd hh (by omega)) (fun _ => ?_) | refine And.intro (fun _ => ?_) (fun hh => absurd hh (by omega)) | refine And.intro (by omega) ?_)
  rw [hV.1]
  refine lp_X11_exponentOf_L10_of _ _ _ (fun x _ _ _ _ _ _ => ∃ e, 1 ≤ e ∧ e ≤ u.length ∧ x = nI e ∧ ∀ e', e < e' → e' ≤ u.length → ¬ PW fr u e') (fun x _ _ _ _ _ _ => x.toNatClampNeg) ?_ _ _ _ _ _ _ _ (⟨u.length, h0, Nat.le_refl _, rfl, fun e' h1 h2 => by omega⟩)
  rintro again x s1 s2 a b c d ⟨e, h1, h2, rfl, h3⟩ hag
  unfold wp_X11_exponentOf_L10
  refine s_isPower irr hf hw hV hu h1 h2 (fun hp tl o t g h hr => br_f' (by decide) (hK e _ _ _ _ _ ⟨h1, h2, hp, h3⟩ hr)) (fun hp s tl o t g h => br_t' (by decide) (nm_e ?_))
  have h4 : e ≠ 1 := fun q => hp (by rw [q]; exact (PW_one irr sym u).2)
  have e1 : nI e + (-1) = nI (e - 1) := by rw [show e = (e - 1) + 1 by omega, pk_m1]; simp
  rw [e1]
  refine hag _ _ _ _ _ _ _ ⟨e - 1, by omega, by omega, rfl, fun e' g1 g2 => ?_⟩ ?_
  · by_cases q2 : e' = e
    · subst q2; exact hp
    · exact h3 e' (by omega) g2
  · rw [nI_clamp (by omega), nI_clamp (by omega)]
    omega
theorem M_exponent {A_now_alphabet_count : Int32} {A_now_alphabet_free : Nat → Int32} {A_now_words_size : Nat → Int32} {A_now_words_letters : Nat → Nat → Int32} {A_now_recogniser_states : Int32} {A_now_recogniser_accepting : Int32} {A_now_recogniser_arrows : Nat → Int32} {A_draft_size : Int32} {A_draft_letters : Nat → Int32} {A_places_letters : Int32} {A_places_size : Int32} {A_places_taken : Int32} {A_places_letterAt : Nat → Int32} {A_places_layerAt : Nat → Int32} {A_places_before : Nat → Int32} {A_places_placesOf : Nat → Int32} {B_v : Nat → Int32} {B_oneLength : Int32} {B_otherLength : Int32} {B_one : Nat → Int32} {B_other : Nat → Int32} {B_isGone : Nat → Int32} {B_heights : Nat → Int32} (x1 : Int32) (hR : REL A_now_alphabet_count A_now_alphabet_free A_now_words_size A_now_words_letters A_now_recogniser_states A_now_recogniser_accepting A_now_recogniser_arrows B_v) {K : Int32 → Int32 → (Nat → Int32) → Int32 → Int32 → Int32 → (Nat → Int32) → (Nat → Int32) → (Nat → Int32) → (Nat → Int32) → Prop} (hK : ∀ (r : Int32) A_draft_size' A_draft_letters' A_places_letters' A_places_size' A_places_taken' A_places_letterAt' A_places_layerAt' A_places_before' A_places_placesOf', (∀ Q : Int32 → Int32 → Int32 → (Nat → Int32) → (Nat → Int32) → (Nat → Int32) → (Nat → Int32) → Prop, (∀ B_oneLength' B_otherLength' B_one' B_other' B_isGone' B_heights', Q r B_oneLength' B_otherLength' B_one' B_other' B_isGone' B_heights') → wp_X11_exponent B_oneLength B_otherLength B_v B_one B_other B_isGone B_heights x1 Q) → K r A_draft_size' A_draft_letters' A_places_letters' A_places_size' A_places_taken' A_places_letterAt' A_places_layerAt' A_places_before' A_places_placesOf') : wp_X10_exponent A_now_alphabet_count A_now_alphabet_free A_now_words_size A_now_words_letters A_draft_size A_draft_letters A_places_letters A_places_size A_places_taken A_places_letterAt A_places_layerAt A_places_before A_places_placesOf x1 K := by
  have hR0 := hR
  obtain ⟨k, fr, W, n, ar, ac, hS, hA, hB⟩ := hR
  have hS0 := hS
  have hA0 := hA
  have hB0 := hB
  obtain ⟨hFR, hWS, hn1, hn6, har, hacl⟩ := hS
  obtain ⟨rfl, hF, hW, rfl, rfl, hAr⟩ := hA
  obtain ⟨hk0, hV, hWV, hn0, hac0, hArV, hAr6⟩ := hB
  have hk6 := hFR.2.1
  have hk2 := hFR.1
  have irr := hFR.irr
  have sym := hFR.sym
  unfold wp_X10_exponent
  rcases in_cases x1 (n := 6) (by omega) with ⟨w, hw, rfl⟩ | hx
  · have ws1 := (hW w hw).1
    have wr1 := hW w hw
    rw [ws1] at wr1
    have wv1 := hWV w hw
    obtain ⟨l161, lk1⟩ := hWS w hw
    have lk61 : ∀ x ∈ W w, x < 6 := fun x h => Nat.lt_of_lt_of_le (lk1 x h) hk6
    refine s_word hw ?_
    (first | refine br_t (by decide) ?_ | refine br_f (by decide) ?_ | refine br_t' (by decide) ?_ | refine br_f' (by decide) ?_)
    try simp (disch := omega) only [k_0, k_1, k_2, k_3, k_4, k_6, k_7, k_10, k_11, k_12, k_13, k_14, k_16, k_32, k_36, k_40, k_41, k_42, k_43, k_49, k_64, k_80, k_96, k_97, k_100, k_109, k_110, k_127, k_128, k_146, k_147, k_160, k_2304, k_4608, k_13824, nI_add, pk_mul, pk_sub, nI_clamp, q_in, nI_ltI, nI_leI, nI_eq, forall_eq, e_shl, e_bit, e_b0, e_b1, e_bn, e_andn, fa_or, fa_and, e_m1, e_nneg]
    rw [ws1]
    try simp (disch := omega) only [k_0, k_1, k_2, k_3, k_4, k_6, k_7, k_10, k_11, k_12, k_13, k_14, k_16, k_32, k_36, k_40, k_41, k_42, k_43, k_49, k_64, k_80, k_96, k_97, k_100, k_109, k_110, k_127, k_128, k_146, k_147, k_160, k_2304, k_4608, k_13824, nI_add, pk_mul, pk_sub, nI_clamp, q_in, nI_ltI, nI_leI, nI_eq, forall_eq, e_shl, e_bit, e_b0, e_b1, e_bn, e_andn, fa_or, fa_and, e_m1, e_nneg]
    refine ⟨hw, fun hl => ⟨hw, ?_⟩, fun hl => ?_⟩
    · refine s_draftRoot irr sym hF hk6 wr1 lk1 l161 (by omega) (fun e l s1 s2 s3 a b c d hE hl => ?_)
      apply hK
      intro Q hQ
      unfold wp_X11_exponent
      refine s_isWord hw ?_
      (first | refine br_t (by decide) ?_ | refine br_f (by decide) ?_ | refine br_t' (by decide) ?_ | refine br_f' (by decide) ?_)
      try simp (disch := omega) only [k_0, k_1, k_2, k_3, k_4, k_6, k_7, k_10, k_11, k_12, k_13, k_14, k_16, k_32, k_36, k_40, k_41, k_42, k_43, k_49, k_64, k_80, k_96, k_97, k_100, k_109, k_110, k_127, k_128, k_146, k_147, k_160, k_2304, k_4608, k_13824, nI_add, pk_mul, pk_sub, nI_clamp, q_in, nI_ltI, nI_leI, nI_eq, forall_eq, e_shl, e_bit, e_b0, e_b1, e_bn, e_andn, fa_or, fa_and, e_m1, e_nneg]
      rw [wv1.1]
      try simp (disch := omega) only [k_0, k_1, k_2, k_3, k_4, k_6, k_7, k_10, k_11, k_12, k_13, k_14, k_16, k_32, k_36, k_40, k_41, k_42, k_43, k_49, k_64, k_80, k_96, k_97, k_100, k_109, k_110, k_127, k_128, k_146, k_147, k_160, k_2304, k_4608, k_13824, nI_add, pk_mul, pk_sub, nI_clamp, q_in, nI_ltI, nI_leI, nI_eq, forall_eq, e_shl, e_bit, e_b0, e_b1, e_bn, e_andn, fa_or, fa_and, e_m1, e_nneg]
      refine ⟨by omega, fun _ => ?_, fun q => absurd q (by omega)⟩
      refine s_exponentOf irr sym hV hw wv1 lk61 (by omega) (fun e' tl o t g h hE' _ => ?_)
      rw [← hE.one hE']
      first | (apply hQ; done) | (apply hQ; exact hR0)
    · apply hK
      intro Q hQ
      unfold wp_X11_exponent
      refine s_isWord hw ?_
      (first | refine br_t (by decide) ?_ | refine br_f (by decide) ?_ | refine br_t' (by decide) ?_ | refine br_f' (by decide) ?_)
      try simp (disch := omega) only [k_0, k_1, k_2, k_3, k_4, k_6, k_7, k_10, k_11, k_12, k_13, k_14, k_16, k_32, k_36, k_40, k_41, k_42, k_43, k_49, k_64, k_80, k_96, k_97, k_100, k_109, k_110, k_127, k_128, k_146, k_147, k_160, k_2304, k_4608, k_13824, nI_add, pk_mul, pk_sub, nI_clamp, q_in, nI_ltI, nI_leI, nI_eq, forall_eq, e_shl, e_bit, e_b0, e_b1, e_bn, e_andn, fa_or, fa_and, e_m1, e_nneg]
      rw [wv1.1]
      try simp (disch := omega) only [k_0, k_1, k_2, k_3, k_4, k_6, k_7, k_10, k_11, k_12, k_13, k_14, k_16, k_32, k_36, k_40, k_41, k_42, k_43, k_49, k_64, k_80, k_96, k_97, k_100, k_109, k_110, k_127, k_128, k_146, k_147, k_160, k_2304, k_4608, k_13824, nI_add, pk_mul, pk_sub, nI_clamp, q_in, nI_ltI, nI_leI, nI_eq, forall_eq, e_shl, e_bit, e_b0, e_b1, e_bn, e_andn, fa_or, fa_and, e_m1, e_nneg]
      refine ⟨by omega, fun q => absurd hl q, fun _ => ?_⟩
      first | (apply hQ; done) | (apply hQ; exact hR0)
  · refine s_wordN hx ?_
    (first | refine br_t (by decide) ?_ | refine br_f (by decide) ?_ | refine br_t' (by decide) ?_ | refine br_f' (by decide) ?_)
    apply hK
    intro Q hQ
    unfold wp_X11_exponent
    refine s_isWordN hx ?_
    (first | refine br_t (by decide) ?_ | refine br_f (by decide) ?_ | refine br_t' (by decide) ?_ | refine br_f' (by decide) ?_)
    first | (apply hQ; done) | (apply hQ; exact hR0)
theorem M_root {A_now_alphabet_count : Int32} {A_now_alphabet_free : Nat → Int32} {A_now_words_size : Nat → Int32} {A_now_words_letters : Nat → Nat → Int32} {A_now_recogniser_states : Int32} {A_now_recogniser_accepting : Int32} {A_now_recogniser_arrows : Nat → Int32} {A_draft_size : Int32} {A_draft_letters : Nat → Int32} {A_places_letters : Int32} {A_places_size : Int32} {A_places_taken : Int32} {A_places_letterAt : Nat → Int32} {A_places_layerAt : Nat → Int32} {A_places_before : Nat → Int32} {A_places_placesOf : Nat → Int32} {B_v : Nat → Int32} {B_oneLength : Int32} {B_otherLength : Int32} {B_madeLength : Int32} {B_one : Nat → Int32} {B_other : Nat → Int32} {B_made : Nat → Int32} {B_isGone : Nat → Int32} {B_heights : Nat → Int32} (x1 x2 : Int32) (hR : REL A_now_alphabet_count A_now_alphabet_free A_now_words_size A_now_words_letters A_now_recogniser_states A_now_recogniser_accepting A_now_recogniser_arrows B_v) {K : Int32 → (Nat → Int32) → (Nat → Nat → Int32) → Int32 → (Nat → Int32) → Int32 → Int32 → Int32 → (Nat → Int32) → (Nat → Int32) → (Nat → Int32) → (Nat → Int32) → Prop} (hK : ∀ (r : Int32) A_now_words_size' A_now_words_letters' A_draft_size' A_draft_letters' A_places_letters' A_places_size' A_places_taken' A_places_letterAt' A_places_layerAt' A_places_before' A_places_placesOf', (∀ Q : Int32 → Int32 → Int32 → Int32 → (Nat → Int32) → (Nat → Int32) → (Nat → Int32) → (Nat → Int32) → (Nat → Int32) → (Nat → Int32) → Prop, (∀ B_oneLength' B_otherLength' B_madeLength' B_v' B_one' B_other' B_made' B_isGone' B_heights', REL A_now_alphabet_count A_now_alphabet_free A_now_words_size' A_now_words_letters' A_now_recogniser_states A_now_recogniser_accepting A_now_recogniser_arrows B_v' → Q r B_oneLength' B_otherLength' B_madeLength' B_v' B_one' B_other' B_made' B_isGone' B_heights') → wp_X11_root B_oneLength B_otherLength B_madeLength B_v B_one B_other B_made B_isGone B_heights x1 x2 Q) → K r A_now_words_size' A_now_words_letters' A_draft_size' A_draft_letters' A_places_letters' A_places_size' A_places_taken' A_places_letterAt' A_places_layerAt' A_places_before' A_places_placesOf') : wp_X10_root A_now_alphabet_count A_now_alphabet_free A_now_words_size A_now_words_letters A_draft_size A_draft_letters A_places_letters A_places_size A_places_taken A_places_letterAt A_places_layerAt A_places_before A_places_placesOf x1 x2 K := by
  have hR0 := hR
  obtain ⟨k, fr, W, n, ar, ac, hS, hA, hB⟩ := hR
  have hS0 := hS
  have hA0 := hA
  have hB0 := hB
  obtain ⟨hFR, hWS, hn1, hn6, har, hacl⟩ := hS
  obtain ⟨rfl, hF, hW, rfl, rfl, hAr⟩ := hA
  obtain ⟨hk0, hV, hWV, hn0, hac0, hArV, hAr6⟩ := hB
  have hk6 := hFR.2.1
  have hk2 := hFR.1
  have irr := hFR.irr
  have sym := hFR.sym
  unfold wp_X10_root
  rcases in_cases x1 (n := 6) (by omega) with ⟨w, hw, rfl⟩ | hx
  · rcases in_cases x2 (n := 6) (by omega) with ⟨t, ht, rfl⟩ | hx
    · have ws1 := (hW w hw).1
      have wr1 := hW w hw
      rw [ws1] at wr1
      have wv1 := hWV w hw
      obtain ⟨l161, lk1⟩ := hWS w hw
      have lk61 : ∀ x ∈ W w, x < 6 := fun x h => Nat.lt_of_lt_of_le (lk1 x h) hk6
      refine s_word hw ?_
      (first | refine br_t (by decide) ?_ | refine br_f (by decide) ?_ | refine br_t' (by decide) ?_ | refine br_f' (by decide) ?_)
      refine s_word ht ?_
      (first | refine br_t (by decide) ?_ | refine br_f (by decide) ?_ | refine br_t' (by decide) ?_ | refine br_f' (by decide) ?_)
      try simp (disch := omega) only [k_0, k_1, k_2, k_3, k_4, k_6, k_7, k_10, k_11, k_12, k_13, k_14, k_16, k_32, k_36, k_40, k_41, k_42, k_43, k_49, k_64, k_80, k_96, k_97, k_100, k_109, k_110, k_127, k_128, k_146, k_147, k_160, k_2304, k_4608, k_13824, nI_add, pk_mul, pk_sub, nI_clamp, q_in, nI_ltI, nI_leI, nI_eq, forall_eq, e_shl, e_bit, e_b0, e_b1, e_bn, e_andn, fa_or, fa_and, e_m1, e_nneg]
      rw [ws1]
      try simp (disch := omega) only [k_0, k_1, k_2, k_3, k_4, k_6, k_7, k_10, k_11, k_12, k_13, k_14, k_16, k_32, k_36, k_40, k_41, k_42, k_43, k_49, k_64, k_80, k_96, k_97, k_100, k_109, k_110, k_127, k_128, k_146, k_147, k_160, k_2304, k_4608, k_13824, nI_add, pk_mul, pk_sub, nI_clamp, q_in, nI_ltI, nI_leI, nI_eq, forall_eq, e_shl, e_bit, e_b0, e_b1, e_bn, e_andn, fa_or, fa_and, e_m1, e_nneg]
      refine ⟨hw, fun hl => ⟨hw, ?_⟩, fun hl => ?_⟩
      · refine s_draftRoot irr sym hF hk6 wr1 lk1 l161 (by omega) (fun e l s1 s2 s3 a b c d hE hl => ?_)
        have rk : ∀ x ∈ rt (W w) e, x < k := fun x hx => lk1 x (rtN_mem (W w) e (W w).length (Nat.le_refl _) x hx)
        have rl : (rt (W w) e).length ≤ (W w).length := rtN_le (W w) e (W w).length
        have nl := nf_len (fr := fr) rk
        refine s_settle irr sym ht hF hk6 hl rk (by omega) (fun lt' s1 s2 s3 a b c d hl => ?_)
        apply hK
        intro Q hQ
        unfold wp_X11_root
        refine s_isWord hw ?_
        (first | refine br_t (by decide) ?_ | refine br_f (by decide) ?_ | refine br_t' (by decide) ?_ | refine br_f' (by decide) ?_)
        refine s_isWord ht ?_
        (first | refine br_t (by decide) ?_ | refine br_f (by decide) ?_ | refine br_t' (by decide) ?_ | refine br_f' (by decide) ?_)
        try simp (disch := omega) only [k_0, k_1, k_2, k_3, k_4, k_6, k_7, k_10, k_11, k_12, k_13, k_14, k_16, k_32, k_36, k_40, k_41, k_42, k_43, k_49, k_64, k_80, k_96, k_97, k_100, k_109, k_110, k_127, k_128, k_146, k_147, k_160, k_2304, k_4608, k_13824, nI_add, pk_mul, pk_sub, nI_clamp, q_in, nI_ltI, nI_leI, nI_eq, forall_eq, e_shl, e_bit, e_b0, e_b1, e_bn, e_andn, fa_or, fa_and, e_m1, e_nneg]
        rw [wv1.1]
        try simp (disch := omega) only [k_0, k_1, k_2, k_3, k_4, k_6, k_7, k_10, k_11, k_12, k_13, k_14, k_16, k_32, k_36, k_40, k_41, k_42, k_43, k_49, k_64, k_80, k_96, k_97, k_100, k_109, k_110, k_127, k_128, k_146, k_147, k_160, k_2304, k_4608, k_13824, nI_add, pk_mul, pk_sub, nI_clamp, q_in, nI_ltI, nI_leI, nI_eq, forall_eq, e_shl, e_bit, e_b0, e_b1, e_bn, e_andn, fa_or, fa_and, e_m1, e_nneg]
        refine ⟨by omega, fun _ => ?_, fun q => absurd q (by omega)⟩
        refine s_exponentOf irr sym hV hw wv1 lk61 (by omega) (fun e' tl o t g h hE' ho => ?_)
        rw [← hE.one hE'] at ho ⊢
        refine s_normalizes irr hV hk6 rk ho (by omega) (by omega) (by decide) (fun md g hm => s_stores hm (by omega) ht (fun v' hv' hfr => ?_))
        apply hQ
        exact REL.word hS0 hA0 hB0 ht (by omega) (nf_lt rk) hl hv' hfr
      · apply hK
        intro Q hQ
        unfold wp_X11_root
        refine s_isWord hw ?_
        (first | refine br_t (by decide) ?_ | refine br_f (by decide) ?_ | refine br_t' (by decide) ?_ | refine br_f' (by decide) ?_)
        refine s_isWord ht ?_
        (first | refine br_t (by decide) ?_ | refine br_f (by decide) ?_ | refine br_t' (by decide) ?_ | refine br_f' (by decide) ?_)
        try simp (disch := omega) only [k_0, k_1, k_2, k_3, k_4, k_6, k_7, k_10, k_11, k_12, k_13, k_14, k_16, k_32, k_36, k_40, k_41, k_42, k_43, k_49, k_64, k_80, k_96, k_97, k_100, k_109, k_110, k_127, k_128, k_146, k_147, k_160, k_2304, k_4608, k_13824, nI_add, pk_mul, pk_sub, nI_clamp, q_in, nI_ltI, nI_leI, nI_eq, forall_eq, e_shl, e_bit, e_b0, e_b1, e_bn, e_andn, fa_or, fa_and, e_m1, e_nneg]
        rw [wv1.1]
        try simp (disch := omega) only [k_0, k_1, k_2, k_3, k_4, k_6, k_7, k_10, k_11, k_12, k_13, k_14, k_16, k_32, k_36, k_40, k_41, k_42, k_43, k_49, k_64, k_80, k_96, k_97, k_100, k_109, k_110, k_127, k_128, k_146, k_147, k_160, k_2304, k_4608, k_13824, nI_add, pk_mul, pk_sub, nI_clamp, q_in, nI_ltI, nI_leI, nI_eq, forall_eq, e_shl, e_bit, e_b0, e_b1, e_bn, e_andn, fa_or, fa_and, e_m1, e_nneg]
        refine ⟨by omega, fun q => absurd hl q, fun _ => ?_⟩
        first | (apply hQ; done) | (apply hQ; exact hR0)
    · refine s_word hw ?_
      (first | refine br_t (by decide) ?_ | refine br_f (by decide) ?_ | refine br_t' (by decide) ?_ | refine br_f' (by decide) ?_)
      refine s_wordN hx ?_
      (first | refine br_t (by decide) ?_ | refine br_f (by decide) ?_ | refine br_t' (by decide) ?_ | refine br_f' (by decide) ?_)
      apply hK
      intro Q hQ
      unfold wp_X11_root
      refine s_isWord hw ?_
      (first | refine br_t (by decide) ?_ | refine br_f (by decide) ?_ | refine br_t' (by decide) ?_ | refine br_f' (by decide) ?_)
      refine s_isWordN hx ?_
      (first | refine br_t (by decide) ?_ | refine br_f (by decide) ?_ | refine br_t' (by decide) ?_ | refine br_f' (by decide) ?_)
      first | (apply hQ; done) | (apply hQ; exact hR0)
  · refine s_wordN hx ?_
    (first | refine br_t (by decide) ?_ | refine br_f (by decide) ?_ | refine br_t' (by decide) ?_ | refine br_f' (by decide) ?_)
    apply hK
    intro Q hQ
    unfold wp_X11_root
    refine s_isWordN hx ?_
    (first | refine br_t (by decide) ?_ | refine br_f (by decide) ?_ | refine br_t' (by decide) ?_ | refine br_f' (by decide) ?_)
    first | (apply hQ; done) | (apply hQ; exact hR0)
