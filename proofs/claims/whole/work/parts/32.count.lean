/-! the reference's beginnings -/
def BF (u : List Nat) (bf : Nat → Int32) (n : Nat) : Prop := ∀ p, p < n → ∀ y, y < 6 → bf (96 * u.getD p 0 + 6 * cntB u (u.getD p 0) p + y) = nI (cntB u y p)
def CN (u : List Nat) (cn : Nat → Int32) (n : Nat) : Prop := ∀ x, x < 6 → cn x = nI (cntB u x n)
theorem s_findBeg {bg : Int32} {one cn st bf : Nat → Int32} {u : List Nat} (hu : ∀ x ∈ u, x < 6) (hR : RW one u) (h16 : u.length ≤ 16) {K : Int32 → (Nat → Int32) → (Nat → Int32) → (Nat → Int32) → Prop} (hK : ∀ cn st bf, CN u cn u.length → WG u st → BF u bf u.length → K (nI (wt u 6)) cn st bf) : wp_X11_findBeginnings (nI u.length) bg one cn st bf K := by
  unfold wp_X11_findBeginnings
  refine for_X11_findBeginnings_L2 _ (6) (fun i c => ∀ x, x < i → c x = nI 0) ?_ ?_ (0) _ _ rfl (Nat.zero_le _) (fun x hx => absurd hx (Nat.not_lt_zero _))
  · intro again i c hi hJ hag
    unfold wp_X11_findBeginnings_L2
    try simp (disch := omega) only [k_0, k_1, k_2, k_3, k_4, k_6, k_7, k_10, k_11, k_12, k_13, k_14, k_16, k_32, k_36, k_40, k_41, k_42, k_43, k_49, k_64, k_80, k_96, k_97, k_100, k_109, k_110, k_127, k_128, k_146, k_147, k_160, k_2304, k_4608, k_13824, nI_add, pk_mul, pk_sub, nI_clamp, q_in, nI_ltI, nI_leI, nI_eq, forall_eq, e_shl, e_bit, e_b0, e_b1, e_bn, e_andn, fa_or, fa_and, e_m1, e_nneg]
    repeat (first | refine And.intro (fun hh => absurd hh (by omega)) (fun _ => ?_) | refine And.intro (fun _ => ?_) (fun hh => absurd hh (by omega)) | refine And.intro (by omega) ?_)
    refine hag _ (fun x hx => ?_)
    by_cases ex : x = i
    · subst ex; exact pk_us
    · rw [pk_un ex]; exact hJ x (by omega)
  intro again c0 hJ0
  unfold wp_X11_findBeginnings_L2
  try simp (disch := omega) only [k_0, k_1, k_2, k_3, k_4, k_6, k_7, k_10, k_11, k_12, k_13, k_14, k_16, k_32, k_36, k_40, k_41, k_42, k_43, k_49, k_64, k_80, k_96, k_97, k_100, k_109, k_110, k_127, k_128, k_146, k_147, k_160, k_2304, k_4608, k_13824, nI_add, pk_mul, pk_sub, nI_clamp, q_in, nI_ltI, nI_leI, nI_eq, forall_eq, e_shl, e_bit, e_b0, e_b1, e_bn, e_andn, fa_or, fa_and, e_m1, e_nneg]
  repeat (first | refine And.intro (fun hh => absurd hh (by omega)) (fun _ => ?_) | refine And.intro (fun _ => ?_) (fun hh => absurd hh (by omega)) | refine And.intro (by omega) ?_)
  refine for_X11_findBeginnings_L23 _ _ _ (u.length) (fun i c f => CN u c i ∧ BF u f i) ?_ ?_ (0) _ _ _ rfl (Nat.zero_le _) (⟨fun x hx => hJ0 x hx, fun p hp => absurd hp (Nat.not_lt_zero _)⟩)
  · rintro again2 i c f hi ⟨hc, hf⟩ hag
    have ui := hu _ (getD_mem hi)
    have ci := cntB_le u (u.getD i 0) i
    unfold wp_X11_findBeginnings_L23
    try simp (disch := omega) only [k_0, k_1, k_2, k_3, k_4, k_6, k_7, k_10, k_11, k_12, k_13, k_14, k_16, k_32, k_36, k_40, k_41, k_42, k_43, k_49, k_64, k_80, k_96, k_97, k_100, k_109, k_110, k_127, k_128, k_146, k_147, k_160, k_2304, k_4608, k_13824, nI_add, pk_mul, pk_sub, nI_clamp, q_in, nI_ltI, nI_leI, nI_eq, forall_eq, e_shl, e_bit, e_b0, e_b1, e_bn, e_andn, fa_or, fa_and, e_m1, e_nneg]
    rw [hR i hi]
    try simp (disch := omega) only [k_0, k_1, k_2, k_3, k_4, k_6, k_7, k_10, k_11, k_12, k_13, k_14, k_16, k_32, k_36, k_40, k_41, k_42, k_43, k_49, k_64, k_80, k_96, k_97, k_100, k_109, k_110, k_127, k_128, k_146, k_147, k_160, k_2304, k_4608, k_13824, nI_add, pk_mul, pk_sub, nI_clamp, q_in, nI_ltI, nI_leI, nI_eq, forall_eq, e_shl, e_bit, e_b0, e_b1, e_bn, e_andn, fa_or, fa_and, e_m1, e_nneg]
    repeat (first | refine And.intro (fun hh => absurd hh (by omega)) (fun _ => ?_) | refine And.intro (fun _ => ?_) (fun hh => absurd hh (by omega)) | refine And.intro (by omega) ?_)
    refine for_X11_findBeginnings_L40 _ _ _ (6) (fun y f => BF u f i ∧ ∀ y', y' < y → f (96 * u.getD i 0 + 6 * cntB u (u.getD i 0) i + y') = nI (cntB u y' i)) ?_ ?_ (0) _ _ rfl (Nat.zero_le _) (⟨hf, fun y hy => absurd hy (Nat.not_lt_zero _)⟩)
    · rintro again3 y f2 hy ⟨g1, g2⟩ hag3
      unfold wp_X11_findBeginnings_L40
      try simp (disch := omega) only [k_0, k_1, k_2, k_3, k_4, k_6, k_7, k_10, k_11, k_12, k_13, k_14, k_16, k_32, k_36, k_40, k_41, k_42, k_43, k_49, k_64, k_80, k_96, k_97, k_100, k_109, k_110, k_127, k_128, k_146, k_147, k_160, k_2304, k_4608, k_13824, nI_add, pk_mul, pk_sub, nI_clamp, q_in, nI_ltI, nI_leI, nI_eq, forall_eq, e_shl, e_bit, e_b0, e_b1, e_bn, e_andn, fa_or, fa_and, e_m1, e_nneg]
      rw [hc _ ui, hc y hy]
      try simp (disch := omega) only [k_0, k_1, k_2, k_3, k_4, k_6, k_7, k_10, k_11, k_12, k_13, k_14, k_16, k_32, k_36, k_40, k_41, k_42, k_43, k_49, k_64, k_80, k_96, k_97, k_100, k_109, k_110, k_127, k_128, k_146, k_147, k_160, k_2304, k_4608, k_13824, nI_add, pk_mul, pk_sub, nI_clamp, q_in, nI_ltI, nI_leI, nI_eq, forall_eq, e_shl, e_bit, e_b0, e_b1, e_bn, e_andn, fa_or, fa_and, e_m1, e_nneg]
      repeat (first | refine And.intro (fun hh => absurd hh (by omega)) (fun _ => ?_) | refine And.intro (fun _ => ?_) (fun hh => absurd hh (by omega)) | refine And.intro (by omega) ?_)
      refine hag3 _ ⟨fun p hp y' hy' => ?_, fun y' hy' => ?_⟩
      · have up := hu _ (getD_mem (u := u) (i := p) (by omega))
        have cp := cntB_le u (u.getD p 0) p
        have hne : 96 * u.getD p 0 + 6 * cntB u (u.getD p 0) p + y' ≠ 96 * u.getD i 0 + 6 * cntB u (u.getD i 0) i + y := by
          by_cases e : u.getD p 0 = u.getD i 0
          · have h5 := cntB_mono u (u.getD p 0) (show p + 1 ≤ i by omega)
            rw [cntB_s, if_pos rfl] at h5
            rw [e] at h5 ⊢
            omega
          · omega
        rw [pk_un hne]
        exact g1 p hp y' hy'
      · by_cases e : y' = y
        · subst e; exact pk_us
        · rw [pk_un (by omega)]; exact g2 y' (by omega)
    · rintro again3 f2 ⟨g1, g2⟩
      unfold wp_X11_findBeginnings_L40
      try simp (disch := omega) only [k_0, k_1, k_2, k_3, k_4, k_6, k_7, k_10, k_11, k_12, k_13, k_14, k_16, k_32, k_36, k_40, k_41, k_42, k_43, k_49, k_64, k_80, k_96, k_97, k_100, k_109, k_110, k_127, k_128, k_146, k_147, k_160, k_2304, k_4608, k_13824, nI_add, pk_mul, pk_sub, nI_clamp, q_in, nI_ltI, nI_leI, nI_eq, forall_eq, e_shl, e_bit, e_b0, e_b1, e_bn, e_andn, fa_or, fa_and, e_m1, e_nneg]
      repeat (first | refine And.intro (fun hh => absurd hh (by omega)) (fun _ => ?_) | refine And.intro (fun _ => ?_) (fun hh => absurd hh (by omega)) | refine And.intro (by omega) ?_)
      rw [hc _ ui]
      try simp (disch := omega) only [k_0, k_1, k_2, k_3, k_4, k_6, k_7, k_10, k_11, k_12, k_13, k_14, k_16, k_32, k_36, k_40, k_41, k_42, k_43, k_49, k_64, k_80, k_96, k_97, k_100, k_109, k_110, k_127, k_128, k_146, k_147, k_160, k_2304, k_4608, k_13824, nI_add, pk_mul, pk_sub, nI_clamp, q_in, nI_ltI, nI_leI, nI_eq, forall_eq, e_shl, e_bit, e_b0, e_b1, e_bn, e_andn, fa_or, fa_and, e_m1, e_nneg]
      refine hag _ _ ⟨fun x hx => ?_, fun p hp => ?_⟩
      · rw [cntB_s]
        by_cases e : x = u.getD i 0
        · subst e; rw [pk_us, if_pos rfl]
        · rw [pk_un e, if_neg (fun q => e q.symm)]; exact hc x hx
      · by_cases e : p = i
        · subst e; exact g2
        · exact g1 p (by omega)
  rintro again2 c f ⟨hc, hf⟩
  unfold wp_X11_findBeginnings_L23
  try simp (disch := omega) only [k_0, k_1, k_2, k_3, k_4, k_6, k_7, k_10, k_11, k_12, k_13, k_14, k_16, k_32, k_36, k_40, k_41, k_42, k_43, k_49, k_64, k_80, k_96, k_97, k_100, k_109, k_110, k_127, k_128, k_146, k_147, k_160, k_2304, k_4608, k_13824, nI_add, pk_mul, pk_sub, nI_clamp, q_in, nI_ltI, nI_leI, nI_eq, forall_eq, e_shl, e_bit, e_b0, e_b1, e_bn, e_andn, fa_or, fa_and, e_m1, e_nneg]
  repeat (first | refine And.intro (fun hh => absurd hh (by omega)) (fun _ => ?_) | refine And.intro (fun _ => ?_) (fun hh => absurd hh (by omega)) | refine And.intro (by omega) ?_)
  refine for_X11_findBeginnings_L102 _ _ (6) (fun i b s => b = nI (wt u i) ∧ ∀ x, x < i → s x = nI (wt u x)) ?_ ?_ (0) _ _ _ rfl (Nat.zero_le _) (⟨rfl, fun x hx => absurd hx (Nat.not_lt_zero _)⟩)
  · rintro again3 i b s hi ⟨rfl, hs⟩ hag
    unfold wp_X11_findBeginnings_L102
    try simp (disch := omega) only [k_0, k_1, k_2, k_3, k_4, k_6, k_7, k_10, k_11, k_12, k_13, k_14, k_16, k_32, k_36, k_40, k_41, k_42, k_43, k_49, k_64, k_80, k_96, k_97, k_100, k_109, k_110, k_127, k_128, k_146, k_147, k_160, k_2304, k_4608, k_13824, nI_add, pk_mul, pk_sub, nI_clamp, q_in, nI_ltI, nI_leI, nI_eq, forall_eq, e_shl, e_bit, e_b0, e_b1, e_bn, e_andn, fa_or, fa_and, e_m1, e_nneg]
    repeat (first | refine And.intro (fun hh => absurd hh (by omega)) (fun _ => ?_) | refine And.intro (fun _ => ?_) (fun hh => absurd hh (by omega)) | refine And.intro (by omega) ?_)
    rw [hc i hi]
    try simp (disch := omega) only [k_0, k_1, k_2, k_3, k_4, k_6, k_7, k_10, k_11, k_12, k_13, k_14, k_16, k_32, k_36, k_40, k_41, k_42, k_43, k_49, k_64, k_80, k_96, k_97, k_100, k_109, k_110, k_127, k_128, k_146, k_147, k_160, k_2304, k_4608, k_13824, nI_add, pk_mul, pk_sub, nI_clamp, q_in, nI_ltI, nI_leI, nI_eq, forall_eq, e_shl, e_bit, e_b0, e_b1, e_bn, e_andn, fa_or, fa_and, e_m1, e_nneg]
    refine hag _ _ ⟨rfl, fun x hx => ?_⟩
    by_cases ex : x = i
    · subst ex; exact pk_us
    · rw [pk_un ex]; exact hs x (by omega)
  · rintro again3 b s ⟨rfl, hs⟩
    unfold wp_X11_findBeginnings_L102
    try simp (disch := omega) only [k_0, k_1, k_2, k_3, k_4, k_6, k_7, k_10, k_11, k_12, k_13, k_14, k_16, k_32, k_36, k_40, k_41, k_42, k_43, k_49, k_64, k_80, k_96, k_97, k_100, k_109, k_110, k_127, k_128, k_146, k_147, k_160, k_2304, k_4608, k_13824, nI_add, pk_mul, pk_sub, nI_clamp, q_in, nI_ltI, nI_leI, nI_eq, forall_eq, e_shl, e_bit, e_b0, e_b1, e_bn, e_andn, fa_or, fa_and, e_m1, e_nneg]
    repeat (first | refine And.intro (fun hh => absurd hh (by omega)) (fun _ => ?_) | refine And.intro (fun _ => ?_) (fun hh => absurd hh (by omega)) | refine And.intro (by omega) ?_)
    exact hK _ _ _ hc hs hf
theorem s_gone {cn st : Nat → Int32} {u : List Nat} (h16 : u.length ≤ 16) (hN : wt u 6 ≤ 2304) (hc : CN u cn u.length) (hs : WG u st) {b x : Nat} (hb : b < wt u 6) (hx : x < 6) {K : Int32 → Prop} (hK : K (nI (gn u b x))) : wp_X11_gone cn st (nI b) (nI x) K := by
  have h1 := wt_mono u (show x ≤ 6 by omega)
  have h2 := wt_pos u x
  have h3 := cntB_le u x u.length
  have h4 : b / wt u x ≤ b := Nat.div_le_self _ _
  unfold wp_X11_gone
  try simp (disch := omega) only [k_0, k_1, k_2, k_3, k_4, k_6, k_7, k_10, k_11, k_12, k_13, k_14, k_16, k_32, k_36, k_40, k_41, k_42, k_43, k_49, k_64, k_80, k_96, k_97, k_100, k_109, k_110, k_127, k_128, k_146, k_147, k_160, k_2304, k_4608, k_13824, nI_add, pk_mul, pk_sub, nI_clamp, q_in, nI_ltI, nI_leI, nI_eq, forall_eq, e_shl, e_bit, e_b0, e_b1, e_bn, e_andn, fa_or, fa_and, e_m1, e_nneg]
  repeat (first | refine And.intro (fun hh => absurd hh (by omega)) (fun _ => ?_) | refine And.intro (fun _ => ?_) (fun hh => absurd hh (by omega)) | refine And.intro (by omega) ?_)
  rw [hs x hx, hc x hx]
  try simp (disch := omega) only [k_0, k_1, k_2, k_3, k_4, k_6, k_7, k_10, k_11, k_12, k_13, k_14, k_16, k_32, k_36, k_40, k_41, k_42, k_43, k_49, k_64, k_80, k_96, k_97, k_100, k_109, k_110, k_127, k_128, k_146, k_147, k_160, k_2304, k_4608, k_13824, nI_add, pk_mul, pk_sub, nI_clamp, q_in, nI_ltI, nI_leI, nI_eq, forall_eq, e_shl, e_bit, e_b0, e_b1, e_bn, e_andn, fa_or, fa_and, e_m1, e_nneg]
  rw [pk_div (by omega) (by omega) (by omega), pk_rem (by omega) (by omega) (by omega)]
  refine ⟨by omega, hx, by omega, hK⟩
theorem s_canCome {v cn st bf : Nat → Int32} {fr : Nat → Nat} {k : Nat} {u : List Nat} (irr : ∀ a, ind fr a a = false) (sym : ∀ a b, ind fr a b = ind fr b a) (hv0 : v 0 = nI k) (hf : FV v fr) (hk : k ≤ 6) (hu : ∀ x ∈ u, x < k) (h16 : u.length ≤ 16) (hN : wt u 6 ≤ 2304) (hc : CN u cn u.length) (hs : WG u st) (hB : BF u bf u.length) {b x : Nat} (hb : b < wt u 6) (hx : x < 6) {K : Int32 → Prop} (hK : K (bI (cc fr u b x))) : wp_X11_canCome v cn st bf (nI b) (nI x) K := by
  have h3 := cntB_le u x u.length
  have h4 := gn_le u b x
  unfold wp_X11_canCome
  refine s_gone h16 hN hc hs hb hx ?_
  try simp (disch := omega) only [k_0, k_1, k_2, k_3, k_4, k_6, k_7, k_10, k_11, k_12, k_13, k_14, k_16, k_32, k_36, k_40, k_41, k_42, k_43, k_49, k_64, k_80, k_96, k_97, k_100, k_109, k_110, k_127, k_128, k_146, k_147, k_160, k_2304, k_4608, k_13824, nI_add, pk_mul, pk_sub, nI_clamp, q_in, nI_ltI, nI_leI, nI_eq, forall_eq, e_shl, e_bit, e_b0, e_b1, e_bn, e_andn, fa_or, fa_and, e_m1, e_nneg]
  rw [hc x hx]
  try simp (disch := omega) only [k_0, k_1, k_2, k_3, k_4, k_6, k_7, k_10, k_11, k_12, k_13, k_14, k_16, k_32, k_36, k_40, k_41, k_42, k_43, k_49, k_64, k_80, k_96, k_97, k_100, k_109, k_110, k_127, k_128, k_146, k_147, k_160, k_2304, k_4608, k_13824, nI_add, pk_mul, pk_sub, nI_clamp, q_in, nI_ltI, nI_leI, nI_eq, forall_eq, e_shl, e_bit, e_b0, e_b1, e_bn, e_andn, fa_or, fa_and, e_m1, e_nneg]
  refine ⟨hx, fun hne => ?_, fun he => ?_⟩
  · obtain ⟨p, hp, hpx, hpc⟩ := kth (show gn u b x < cntB u x u.length by omega)
    have hnx : isNx (ind fr) u (tb (Tm u b)) x p ↔ ∀ y, y < k → ind fr x y = true ∨ cntB u y p ≤ gn u b y := by
      rw [nx_iff irr sym hu]
      exact ⟨fun h => h.2.2.2, fun h => ⟨hp, hpx, hpc, h⟩⟩
    have hcc : cc fr u b x = true ↔ ∀ y, y < k → ind fr x y = true ∨ cntB u y p ≤ gn u b y := by
      rw [← hnx]
      constructor
      · intro h
        obtain ⟨q, hq⟩ := cc_ex h
        obtain ⟨-, q2, q3, -⟩ := (nx_iff irr sym hu).mp hq
        rw [kth_one hpx q2 (by rw [hpc, q3])]
        exact hq
      · exact cc_t
    refine for_X11_canCome_L25 _ _ _ _ _ _ _ _ (k) (fun y x' => ∃ c, x' = bI c ∧ (c = true ↔ ∀ y', y' < y → ind fr x y' = true ∨ cntB u y' p ≤ gn u b y')) ?_ ?_ (0) _ _ rfl (Nat.zero_le _) (⟨true, rfl, fun _ y hy => absurd hy (Nat.not_lt_zero _), fun _ => rfl⟩)
    · rintro again y x' hy ⟨c, rfl, hcy⟩ hag
      have nxt : ∀ d, (d = true ↔ (ind fr x y = true ∨ cntB u y p ≤ gn u b y)) → c = true → again (bI d) (nI (y + 1)) := fun d hd hct => hag _ ⟨d, rfl, fun h y' hy' => by
        by_cases e : y' = y
        · subst e; exact hd.mp h
        · exact hcy.mp hct y' (by omega), fun h => hd.mpr (h y (by omega))⟩
      have hbf := hB p hp y (by omega)
      rw [hpx, hpc] at hbf
      have g1 := gn_le u b y
      have g2 := cntB_le u y p
      have g3 := cntB_le u y u.length
      unfold wp_X11_canCome_L25
      try simp (disch := omega) only [k_0, k_1, k_2, k_3, k_4, k_6, k_7, k_10, k_11, k_12, k_13, k_14, k_16, k_32, k_36, k_40, k_41, k_42, k_43, k_49, k_64, k_80, k_96, k_97, k_100, k_109, k_110, k_127, k_128, k_146, k_147, k_160, k_2304, k_4608, k_13824, nI_add, pk_mul, pk_sub, nI_clamp, q_in, nI_ltI, nI_leI, nI_eq, forall_eq, e_shl, e_bit, e_b0, e_b1, e_bn, e_andn, fa_or, fa_and, e_m1, e_nneg]
      rw [hv0]
      try simp (disch := omega) only [k_0, k_1, k_2, k_3, k_4, k_6, k_7, k_10, k_11, k_12, k_13, k_14, k_16, k_32, k_36, k_40, k_41, k_42, k_43, k_49, k_64, k_80, k_96, k_97, k_100, k_109, k_110, k_127, k_128, k_146, k_147, k_160, k_2304, k_4608, k_13824, nI_add, pk_mul, pk_sub, nI_clamp, q_in, nI_ltI, nI_leI, nI_eq, forall_eq, e_shl, e_bit, e_b0, e_b1, e_bn, e_andn, fa_or, fa_and, e_m1, e_nneg]
      repeat (first | refine And.intro (fun hh => absurd hh (by omega)) (fun _ => ?_) | refine And.intro (fun _ => ?_) (fun hh => absurd hh (by omega)) | refine And.intro (by omega) ?_)
      cases hcc2 : c with
      | false =>
        refine br_t (by decide) (hag _ ⟨false, rfl, fun q => by (cases q), fun h => ?_⟩)
        rw [hcc2] at hcy
        exact hcy.mpr (fun y' hy' => h y' (by omega))
      | true =>
        refine br_f (by decide) (s_free hf hx (by omega) ?_)
        cases hi : ind fr x y with
        | true => exact br_f' (by decide) (nxt true ⟨fun _ => Or.inl hi, fun _ => rfl⟩ hcc2)
        | false =>
          refine br_t' (by decide) ⟨by omega, s_gone h16 hN hc hs hb (by omega) ?_⟩
          rw [hbf]
          try simp (disch := omega) only [k_0, k_1, k_2, k_3, k_4, k_6, k_7, k_10, k_11, k_12, k_13, k_14, k_16, k_32, k_36, k_40, k_41, k_42, k_43, k_49, k_64, k_80, k_96, k_97, k_100, k_109, k_110, k_127, k_128, k_146, k_147, k_160, k_2304, k_4608, k_13824, nI_add, pk_mul, pk_sub, nI_clamp, q_in, nI_ltI, nI_leI, nI_eq, forall_eq, e_shl, e_bit, e_b0, e_b1, e_bn, e_andn, fa_or, fa_and, e_m1, e_nneg]
          refine ⟨fun q => nxt false ⟨fun q2 => by (cases q2), fun q2 => ?_⟩ hcc2, fun q => nxt true ⟨fun _ => Or.inr (by omega), fun _ => rfl⟩ hcc2⟩
          rcases q2 with q2 | q2
          · rw [hi] at q2; exact q2
          · omega
    · rintro again x' ⟨c, rfl, hcy⟩
      unfold wp_X11_canCome_L25
      try simp (disch := omega) only [k_0, k_1, k_2, k_3, k_4, k_6, k_7, k_10, k_11, k_12, k_13, k_14, k_16, k_32, k_36, k_40, k_41, k_42, k_43, k_49, k_64, k_80, k_96, k_97, k_100, k_109, k_110, k_127, k_128, k_146, k_147, k_160, k_2304, k_4608, k_13824, nI_add, pk_mul, pk_sub, nI_clamp, q_in, nI_ltI, nI_leI, nI_eq, forall_eq, e_shl, e_bit, e_b0, e_b1, e_bn, e_andn, fa_or, fa_and, e_m1, e_nneg]
      rw [hv0]
      try simp (disch := omega) only [k_0, k_1, k_2, k_3, k_4, k_6, k_7, k_10, k_11, k_12, k_13, k_14, k_16, k_32, k_36, k_40, k_41, k_42, k_43, k_49, k_64, k_80, k_96, k_97, k_100, k_109, k_110, k_127, k_128, k_146, k_147, k_160, k_2304, k_4608, k_13824, nI_add, pk_mul, pk_sub, nI_clamp, q_in, nI_ltI, nI_leI, nI_eq, forall_eq, e_shl, e_bit, e_b0, e_b1, e_bn, e_andn, fa_or, fa_and, e_m1, e_nneg]
      repeat (first | refine And.intro (fun hh => absurd hh (by omega)) (fun _ => ?_) | refine And.intro (fun _ => ?_) (fun hh => absurd hh (by omega)) | refine And.intro (by omega) ?_)
      refine ⟨bI_01 c, ?_⟩
      have e : c = cc fr u b x := by
        rw [← hcc] at hcy
        cases h1 : c with
        | true => exact (hcy.mp h1).symm
        | false =>
          cases h2 : cc fr u b x with
          | false => rfl
          | true => rw [hcy.mpr h2] at h1; cases h1
      rw [e]
      exact hK
  · rw [cc_f (fun p hp => by have := nx_lt irr sym hu hp; omega)] at hK
    exact hK
/-! the recogniser -/
theorem s_has5 {n q : Nat} (hn : n ≤ 6) (hq : q < n) {K : Int32 → Prop} (hK : K 1) : wp_X5_has (nI n) (nI q) K := by
  unfold wp_X5_has
  try simp (disch := omega) only [k_0, k_1, k_2, k_3, k_4, k_6, k_7, k_10, k_11, k_12, k_13, k_14, k_16, k_32, k_36, k_40, k_41, k_42, k_43, k_49, k_64, k_80, k_96, k_97, k_100, k_109, k_110, k_127, k_128, k_146, k_147, k_160, k_2304, k_4608, k_13824, nI_add, pk_mul, pk_sub, nI_clamp, q_in, nI_ltI, nI_leI, nI_eq, forall_eq, e_shl, e_bit, e_b0, e_b1, e_bn, e_andn, fa_or, fa_and, e_m1, e_nneg]
  repeat (first | refine And.intro (fun hh => absurd hh (by omega)) (fun _ => ?_) | refine And.intro (fun _ => ?_) (fun hh => absurd hh (by omega)) | refine And.intro (by omega) ?_)
  exact hK
theorem s_has5N {n : Nat} {x : Int32} (hn : n ≤ 6) (h : ¬ ∃ q, q < n ∧ x = nI q) {K : Int32 → Prop} (hK : K 0) : wp_X5_has (nI n) x K := by
  unfold wp_X5_has
  refine ⟨fun _ => hK, fun h0 => ⟨fun _ => hK, fun h1 => ?_⟩⟩
  rcases in_not (by omega) h with q | q
  · exact absurd q h0
  · exact absurd q h1
theorem s_has5B {n q : Nat} (hn : n ≤ 6) (hq : q < 2 ^ 31) {K : Int32 → Prop} (hK : K (bI (decide (q < n)))) : wp_X5_has (nI n) (nI q) K := by
  by_cases h : q < n
  · rw [decide_eq_true h] at hK; exact s_has5 hn h hK
  · rw [decide_eq_false h] at hK
    exact s_has5N hn (fun ⟨j, h1, h2⟩ => h (by rw [(nI_eq hq (by omega)).mp h2]; exact h1)) hK
theorem s_step {arr : Nat → Int32} {n : Nat} {ar : Nat → Nat → Nat} (hn : n ≤ 6) (hA : ∀ q x, q < n → x < 6 → arr (q * 6 + x) = nI (ar q x)) {q x : Nat} (hq : q < n) (hx : x < 6) {K : Int32 → Prop} (hK : K (nI (ar q x))) : wp_X5_step (nI n) arr (nI q) (nI x) K := by
  unfold wp_X5_step
  refine s_has5 hn hq (br_f (by decide) ?_)
  unfold wp_X5_step_J23
  try simp (disch := omega) only [k_0, k_1, k_2, k_3, k_4, k_6, k_7, k_10, k_11, k_12, k_13, k_14, k_16, k_32, k_36, k_40, k_41, k_42, k_43, k_49, k_64, k_80, k_96, k_97, k_100, k_109, k_110, k_127, k_128, k_146, k_147, k_160, k_2304, k_4608, k_13824, nI_add, pk_mul, pk_sub, nI_clamp, q_in, nI_ltI, nI_leI, nI_eq, forall_eq, e_shl, e_bit, e_b0, e_b1, e_bn, e_andn, fa_or, fa_and, e_m1, e_nneg]
  repeat (first | refine And.intro (fun hh => absurd hh (by omega)) (fun _ => ?_) | refine And.intro (fun _ => ?_) (fun hh => absurd hh (by omega)) | refine And.intro (by omega) ?_)
  rw [hA q x hq hx]
  exact hK
theorem s_accepts {n ac q : Nat} (hn : n ≤ 6) (hq : q < 6) {K : Int32 → Prop} (hK : K (bI (decide (q < n) && ac.testBit q))) : wp_X5_accepts (nI n) (nI ac) (nI q) K := by
  unfold wp_X5_accepts
  refine s_has5B hn (by omega) ?_
  by_cases h : q < n
  · rw [decide_eq_true h] at hK ⊢
    refine br_f (by decide) ?_
    try simp (disch := omega) only [k_0, k_1, k_2, k_3, k_4, k_6, k_7, k_10, k_11, k_12, k_13, k_14, k_16, k_32, k_36, k_40, k_41, k_42, k_43, k_49, k_64, k_80, k_96, k_97, k_100, k_109, k_110, k_127, k_128, k_146, k_147, k_160, k_2304, k_4608, k_13824, nI_add, pk_mul, pk_sub, nI_clamp, q_in, nI_ltI, nI_leI, nI_eq, forall_eq, e_shl, e_bit, e_b0, e_b1, e_bn, e_andn, fa_or, fa_and, e_m1, e_nneg]
    cases hb : ac.testBit q with
    | true => rw [hb] at hK; exact ⟨fun q => by (cases q), fun _ => hK⟩
    | false => rw [hb] at hK; exact ⟨fun _ => hK, fun q => by (cases q)⟩
  · rw [decide_eq_false h] at hK ⊢
    exact br_t (by decide) hK
theorem lgc {x y : Int64} : lg_cmp x y = 0 ↔ x = y := by
  unfold lg_cmp
  constructor
  · intro h
    split at h
    · exact absurd h (by decide)
    · split at h
      · assumption
      · exact absurd h (by decide)
  · intro h
    subst h
    rw [if_neg (Int64.lt_irrefl), if_pos rfl]
