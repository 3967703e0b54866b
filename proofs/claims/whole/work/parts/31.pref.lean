/-! the beginnings of a word, by how often each letter is gone -/
def wt (u : List Nat) : Nat → Nat
  | 0 => 1
  | x + 1 => wt u x * (cntB u x u.length + 1)
theorem wt_s (u : List Nat) (x : Nat) : wt u (x + 1) = wt u x * (cntB u x u.length + 1) := rfl
theorem wt_pos (u : List Nat) : ∀ x, 0 < wt u x
  | 0 => Nat.one_pos
  | x + 1 => Nat.mul_pos (wt_pos u x) (by omega)
def gn (u : List Nat) (b x : Nat) : Nat := b / wt u x % (cntB u x u.length + 1)
theorem gn_le (u : List Nat) (b x : Nat) : gn u b x ≤ cntB u x u.length := by
  have : gn u b x < cntB u x u.length + 1 := Nat.mod_lt _ (by omega)
  omega
theorem wt_mul (u : List Nat) {x : Nat} : ∀ {y : Nat}, x < y → ∃ m, 0 < m ∧ wt u y = wt u x * (cntB u x u.length + 1) * m
  | 0, h => absurd h (Nat.not_lt_zero x)
  | y + 1, h => by
    by_cases e : x = y
    · subst e; exact ⟨1, by decide, by rw [wt_s, Nat.mul_one]⟩
    · obtain ⟨m, hm, h1⟩ := wt_mul u (show x < y by omega)
      exact ⟨m * (cntB u y u.length + 1), Nat.mul_pos hm (by omega), by rw [wt_s, h1, Nat.mul_assoc]⟩
theorem div_step {b w c m : Nat} (hw : 0 < w) (h : b / w % (c + 1) < c) : (b + w) / (w * (c + 1) * m) = b / (w * (c + 1) * m) := by
  rw [← Nat.div_div_eq_div_mul, ← Nat.div_div_eq_div_mul, ← Nat.div_div_eq_div_mul, ← Nat.div_div_eq_div_mul, Nat.add_div_right _ hw]
  congr 1
  have h1 := Nat.div_add_mod (b / w) (c + 1)
  generalize b / w = q at *
  have h2 : q + 1 = (c + 1) * (q / (c + 1)) + (q % (c + 1) + 1) := by omega
  show (q + 1) / (c + 1) = q / (c + 1)
  rw [h2, Nat.mul_add_div (by omega), Nat.div_eq_of_lt (a := q % (c + 1) + 1) (by omega), Nat.add_zero]
theorem gn_up {u : List Nat} {b x : Nat} (h : gn u b x < cntB u x u.length) (y : Nat) : gn u (b + wt u x) y = if y = x then gn u b x + 1 else gn u b y := by
  unfold gn at h ⊢
  rcases Nat.lt_trichotomy y x with q | q | q
  · rw [if_neg (by omega)]
    obtain ⟨m, -, hm⟩ := wt_mul u q
    rw [hm, Nat.mul_assoc, Nat.add_mul_div_left _ _ (wt_pos u y), Nat.add_mul_mod_self_left]
  · subst q
    rw [if_pos rfl, Nat.add_div_right _ (wt_pos u y)]
    generalize b / wt u y = z at *
    generalize cntB u y u.length = c at *
    have h1 := Nat.div_add_mod z (c + 1)
    have h2 : z + 1 = (c + 1) * (z / (c + 1)) + (z % (c + 1) + 1) := by omega
    show (z + 1) % (c + 1) = z % (c + 1) + 1
    rw [h2, Nat.mul_add_mod, Nat.mod_eq_of_lt (by omega)]
  · rw [if_neg (by omega)]
    obtain ⟨m, -, hm⟩ := wt_mul u q
    rw [hm, div_step (wt_pos u x) h]
theorem up_lt {u : List Nat} {b x : Nat} (hb : b < wt u 6) (hx : x < 6) (h : gn u b x < cntB u x u.length) : b + wt u x < wt u 6 := by
  obtain ⟨m, hm0, hm⟩ := wt_mul u hx
  have h1 := div_step (b := b) (m := m) (wt_pos u x) h
  rw [← hm] at h1
  have h2 : b / wt u 6 = 0 := Nat.div_eq_of_lt hb
  rw [h2] at h1
  rcases Nat.lt_or_ge (b + wt u x) (wt u 6) with q | q
  · exact q
  · have := (Nat.div_pos_iff (b := wt u 6) (a := b + wt u x)).mpr ⟨wt_pos u 6, q⟩
    omega
/-- products of numbers whose sum is bounded -/
def ptab (j s : Nat) : Nat := ((([[1, 1, 1, 1, 1, 1, 1, 1, 1, 1, 1, 1, 1, 1, 1, 1, 1], [1, 2, 3, 4, 5, 6, 7, 8, 9, 10, 11, 12, 13, 14, 15, 16, 17], [1, 2, 4, 6, 9, 12, 16, 20, 25, 30, 36, 42, 49, 56, 64, 72, 81], [1, 2, 4, 8, 12, 18, 27, 36, 48, 64, 80, 100, 125, 150, 180, 216, 252], [1, 2, 4, 8, 16, 24, 36, 54, 81, 108, 144, 192, 256, 320, 400, 500, 625], [1, 2, 4, 8, 16, 32, 48, 72, 108, 162, 243, 324, 432, 576, 768, 1024, 1280], [1, 2, 4, 8, 16, 32, 64, 96, 144, 216, 324, 486, 729, 972, 1296, 1728, 2304]] : List (List Nat)).getD j []).getD s 0)
theorem ptab_ok : ∀ j, j < 6 → ∀ s, s < 17 → ∀ c, c < 17 - s → ptab j s * (c + 1) ≤ ptab (j + 1) (s + c) := by decide +kernel
theorem ptab_mono : ∀ s, s < 17 → ptab 6 s ≤ 2304 := by decide +kernel
theorem wt_tab {u : List Nat} (hu : ∀ x ∈ u, x < 6) (h16 : u.length ≤ 16) : ∀ j, j ≤ 6 → wt u j ≤ ptab j (fb_sm (fun x => cntB u x u.length) j)
  | 0, _ => Nat.le_refl 1
  | j + 1, hj => by
    have ih := wt_tab hu h16 j (by omega)
    have h1 := cnt_sum hu u.length (Nat.le_refl _)
    have h2 : fb_sm (fun x => cntB u x u.length) (j + 1) ≤ fb_sm (fun x => cntB u x u.length) 6 := by
      have := fb_sm_mono (fun x => cntB u x u.length) (j + 1) (6 - (j + 1))
      rw [show j + 1 + (6 - (j + 1)) = 6 by omega] at this
      exact this
    rw [fb_sm_succ] at h2 ⊢
    rw [wt_s]
    exact Nat.le_trans (Nat.mul_le_mul_right _ ih) (ptab_ok j (by omega) _ (by omega) _ (by omega))
theorem wt_le {u : List Nat} (hu : ∀ x ∈ u, x < 6) (h16 : u.length ≤ 16) : wt u 6 ≤ 2304 := by
  have h1 := wt_tab hu h16 6 (Nat.le_refl _)
  have h2 := cnt_sum hu u.length (Nat.le_refl _)
  exact Nat.le_trans h1 (ptab_mono _ (by omega))
theorem wt_mono (u : List Nat) {x y : Nat} (h : x ≤ y) : wt u x ≤ wt u y := by
  obtain ⟨d, rfl⟩ : ∃ d, y = x + d := ⟨y - x, by omega⟩
  clear h
  induction d with
  | zero => exact Nat.le_refl _
  | succ d ih =>
    rw [← Nat.add_assoc, wt_s]
    exact Nat.le_trans ih (Nat.le_mul_of_pos_right _ (by omega))
/-- the places that are gone -/
def TB (u : List Nat) (b n : Nat) : Nat := fld (fun i s => if cntB u (u.getD i 0) i < gn u b (u.getD i 0) then s ||| 2 ^ i else s) 0 n
theorem TB_s (u : List Nat) (b n : Nat) : TB u b (n + 1) = if cntB u (u.getD n 0) n < gn u b (u.getD n 0) then TB u b n ||| 2 ^ n else TB u b n := rfl
theorem TB_bit (u : List Nat) (b j : Nat) : ∀ n, (TB u b n).testBit j = true ↔ j < n ∧ cntB u (u.getD j 0) j < gn u b (u.getD j 0)
  | 0 => by
    constructor
    · intro h; simp [TB, fld] at h
    · rintro ⟨hi, -⟩; exact absurd hi (Nat.not_lt_zero _)
  | n + 1 => by
    rw [TB_s]
    split
    · rename_i e
      rw [tb_or2, Bool.or_eq_true, TB_bit u b j n, decide_eq_true_eq]
      constructor
      · rintro (⟨a, c⟩ | a)
        · exact ⟨by omega, c⟩
        · subst a; exact ⟨by omega, e⟩
      · rintro ⟨a, c⟩
        by_cases q : j = n
        · exact Or.inr q
        · exact Or.inl ⟨by omega, c⟩
    · rename_i e
      rw [TB_bit u b j n]
      constructor
      · rintro ⟨a, c⟩; exact ⟨by omega, c⟩
      · rintro ⟨a, c⟩
        by_cases q : j = n
        · subst q; exact absurd c e
        · exact ⟨by omega, c⟩
def Tm (u : List Nat) (b : Nat) : Nat := TB u b u.length
theorem Tm_lt (u : List Nat) (b : Nat) : Tm u b < 2 ^ u.length := tb_lt (fun j hj => ((TB_bit u b j _).mp hj).1)
theorem Tm_bit {u : List Nat} {b j : Nat} (hj : j < u.length) : tb (Tm u b) j = decide (cntB u (u.getD j 0) j < gn u b (u.getD j 0)) := by
  by_cases h : cntB u (u.getD j 0) j < gn u b (u.getD j 0)
  · rw [decide_eq_true h]; exact (TB_bit u b j _).mpr ⟨hj, h⟩
  · rw [decide_eq_false h]; exact tb_false (fun q => h ((TB_bit u b j _).mp q).2)
theorem Tm_0 (u : List Nat) : Tm u 0 = 0 := tb_zero (fun j => tb_false (fun h => by
  have h1 := ((TB_bit u 0 j _).mp h).2
  have h2 : gn u 0 (u.getD j 0) = 0 := by unfold gn; rw [Nat.zero_div, Nat.zero_mod]
  omega))
theorem kth {u : List Nat} {x m n : Nat} (h : m < cntB u x n) : ∃ p, p < n ∧ u.getD p 0 = x ∧ cntB u x p = m := by
  rw [cntB_ct] at h
  obtain ⟨p, a, b, c⟩ := fb_ct_kth h
  exact ⟨p, a, of_decide_eq_true b, by rw [cntB_ct]; exact c⟩
theorem kth_one {u : List Nat} {x p q : Nat} (h1 : u.getD p 0 = x) (h2 : u.getD q 0 = x) (h : cntB u x p = cntB u x q) : p = q := by
  rw [cntB_ct, cntB_ct] at h
  exact fb_ct_kth_one (p := fun j => decide (u.getD j 0 = x)) (decide_eq_true h1) (decide_eq_true h2) h
theorem nx_iff {fr : Nat → Nat} {k : Nat} (irr : ∀ a, ind fr a a = false) (sym : ∀ a b, ind fr a b = ind fr b a) {u : List Nat} (hu : ∀ x ∈ u, x < k) {b x p : Nat} : isNx (ind fr) u (tb (Tm u b)) x p ↔ p < u.length ∧ u.getD p 0 = x ∧ cntB u x p = gn u b x ∧ ∀ y, y < k → ind fr x y = true ∨ cntB u y p ≤ gn u b y := by
  constructor
  · rintro ⟨h1, h2, h3, h4⟩
    rw [Tm_bit h1, decide_eq_false_iff_not, h2] at h3
    have key : ∀ y, ind fr x y = false → cntB u y p ≤ gn u b y := by
      intro y hy
      apply Classical.byContradiction
      intro hn
      obtain ⟨j, a, e, c⟩ := kth (show gn u b y < cntB u y p by omega)
      have h5 := h4 j a (by rw [Tm_bit (by omega), decide_eq_false_iff_not, e]; omega)
      rw [e, sym, hy] at h5
      cases h5
    refine ⟨h1, h2, ?_, fun y _ => ?_⟩
    · have := key x (irr x)
      omega
    · cases hy : ind fr x y with
      | true => exact Or.inl rfl
      | false => exact Or.inr (key y hy)
  · rintro ⟨h1, h2, h3, h4⟩
    refine ⟨h1, h2, by rw [Tm_bit h1, decide_eq_false_iff_not, h2]; omega, fun j hj hT => ?_⟩
    rw [Tm_bit (by omega), decide_eq_false_iff_not] at hT
    rcases h4 (u.getD j 0) (hu _ (getD_mem (by omega))) with q | q
    · rw [sym]; exact q
    · have h5 := cntB_mono u (u.getD j 0) (show j + 1 ≤ p by omega)
      rw [cntB_s, if_pos rfl] at h5
      omega
theorem nx_lt {fr : Nat → Nat} {k : Nat} (irr : ∀ a, ind fr a a = false) (sym : ∀ a b, ind fr a b = ind fr b a) {u : List Nat} (hu : ∀ x ∈ u, x < k) {b x p : Nat} (h : isNx (ind fr) u (tb (Tm u b)) x p) : gn u b x < cntB u x u.length := by
  obtain ⟨h1, h2, h3, -⟩ := (nx_iff irr sym hu).mp h
  have h5 := cntB_mono u x (show p + 1 ≤ u.length by omega)
  rw [cntB_s, if_pos h2] at h5
  omega
theorem Tm_up {fr : Nat → Nat} {k : Nat} (irr : ∀ a, ind fr a a = false) (sym : ∀ a b, ind fr a b = ind fr b a) {u : List Nat} (hu : ∀ x ∈ u, x < k) {b x p : Nat} (h : isNx (ind fr) u (tb (Tm u b)) x p) : Tm u (b + wt u x) = Tm u b ||| 2 ^ p := by
  have hl := nx_lt irr sym hu h
  obtain ⟨h1, h2, h3, -⟩ := (nx_iff irr sym hu).mp h
  apply subm.eq
  · intro j hj
    obtain ⟨a, c⟩ := (TB_bit u _ j _).mp hj
    rw [tb_or2, Bool.or_eq_true, decide_eq_true_eq]
    rw [gn_up hl] at c
    split at c
    · rename_i e
      by_cases q : cntB u (u.getD j 0) j < gn u b (u.getD j 0)
      · exact Or.inl ((TB_bit u b j _).mpr ⟨a, q⟩)
      · refine Or.inr (kth_one e h2 ?_)
        rw [e] at c q
        omega
    · exact Or.inl ((TB_bit u b j _).mpr ⟨a, c⟩)
  · intro j hj
    rw [tb_or2, Bool.or_eq_true, decide_eq_true_eq] at hj
    refine (TB_bit u _ j _).mpr ?_
    rw [gn_up hl]
    rcases hj with q | q
    · obtain ⟨a, c⟩ := (TB_bit u b j _).mp q
      refine ⟨a, ?_⟩
      split
      · rename_i e
        rw [e] at c ⊢
        omega
      · exact c
    · subst q
      exact ⟨h1, by rw [if_pos h2, h2]; omega⟩
noncomputable def cc (fr : Nat → Nat) (u : List Nat) (b x : Nat) : Bool := @decide (∃ p, isNx (ind fr) u (tb (Tm u b)) x p) (Classical.propDecidable _)
theorem cc_t {fr : Nat → Nat} {u : List Nat} {b x p : Nat} (h : isNx (ind fr) u (tb (Tm u b)) x p) : cc fr u b x = true := @decide_eq_true _ (Classical.propDecidable _) ⟨p, h⟩
theorem cc_f {fr : Nat → Nat} {u : List Nat} {b x : Nat} (h : ∀ p, ¬ isNx (ind fr) u (tb (Tm u b)) x p) : cc fr u b x = false := @decide_eq_false _ (Classical.propDecidable _) (fun ⟨p, q⟩ => h p q)
theorem cc_ex {fr : Nat → Nat} {u : List Nat} {b x : Nat} (h : cc fr u b x = true) : ∃ p, isNx (ind fr) u (tb (Tm u b)) x p := @of_decide_eq_true _ (Classical.propDecidable _) h
theorem cc_lt {fr : Nat → Nat} {k : Nat} (irr : ∀ a, ind fr a a = false) (sym : ∀ a b, ind fr a b = ind fr b a) {u : List Nat} (hu : ∀ x ∈ u, x < k) {b x : Nat} (hb : b < wt u 6) (hx : x < 6) (h : cc fr u b x = true) : b + wt u x < wt u 6 := by
  obtain ⟨p, hp⟩ := cc_ex h
  exact up_lt hb hx (nx_lt irr sym hu hp)
/-! the class's prefixes -/
def TA (u : List Nat) (t : Nat → Int32) (R : Nat → Bool) : Prop := ∀ b, b < wt u 6 → t b = if R b then nI (Tm u b) else -1
def WG (u : List Nat) (w : Nat → Int32) : Prop := ∀ x, x < 6 → w x = nI (wt u x)
theorem s_begin4 {q1 q2 q3 q4 q5 : Int32} {free lA yA bA pA tA wA lt : Nat → Int32} {fr : Nat → Nat} {k : Nat} (hf : FA free fr) (hk : k ≤ 6) {u : List Nat} (hW : WR (nI u.length) lt u) (hu : ∀ x ∈ u, x < k) (h16 : u.length ≤ 16) {K : Int32 → Int32 → Int32 → Int32 → Int32 → (Nat → Int32) → (Nat → Int32) → (Nat → Int32) → (Nat → Int32) → (Nat → Int32) → (Nat → Int32) → Prop} (hK : ∀ a b c d t w, PL fr u u.length a b c d → TA u t (fun b => decide (b = 0)) → WG u w → K (nI k) (nI (wt u 6)) (nI k) (nI u.length) (nI 0) a b c d t w) : wp_X4_begin q1 q2 q3 q4 q5 lA yA bA pA tA wA (nI k) free (nI u.length) lt K := by
  have hu6 : ∀ x ∈ u, x < 6 := fun x hx => Nat.lt_of_lt_of_le (hu x hx) hk
  have hN := wt_le hu6 h16
  have hp6 := wt_pos u 6
  unfold wp_X4_begin
  refine s_lay hf hk hW hu (fun a b c d hP => ?_)
  refine for_X4_begin_L24 _ _ (6) (fun i s w => s = nI (wt u i) ∧ ∀ x, x < i → w x = nI (wt u x)) ?_ ?_ (0) _ _ _ rfl (Nat.zero_le _) (⟨rfl, fun x hx => absurd hx (Nat.not_lt_zero _)⟩)
  · rintro again i s w hi ⟨rfl, hw⟩ hag
    have h1 := wt_mono u (show i + 1 ≤ 6 by omega)
    have h2 := wt_s u i
    unfold wp_X4_begin_L24
    try simp (disch := omega) only [k_0, k_1, k_2, k_3, k_4, k_6, k_7, k_10, k_11, k_12, k_13, k_14, k_16, k_32, k_36, k_40, k_41, k_42, k_43, k_49, k_64, k_80, k_96, k_97, k_100, k_109, k_110, k_127, k_128, k_146, k_147, k_160, k_2304, k_4608, k_13824, nI_add, pk_mul, pk_sub, nI_clamp, q_in, nI_ltI, nI_leI, nI_eq, forall_eq, e_shl, e_bit, e_b0, e_b1, e_bn, e_andn, fa_or, fa_and, e_m1, e_nneg]
    repeat (first | refine And.intro (fun hh => absurd hh (by omega)) (fun _ => ?_) | refine And.intro (fun _ => ?_) (fun hh => absurd hh (by omega)) | refine And.intro (by omega) ?_)
    refine s_countOf h16 hP hi ?_
    try simp (disch := omega) only [k_0, k_1, k_2, k_3, k_4, k_6, k_7, k_10, k_11, k_12, k_13, k_14, k_16, k_32, k_36, k_40, k_41, k_42, k_43, k_49, k_64, k_80, k_96, k_97, k_100, k_109, k_110, k_127, k_128, k_146, k_147, k_160, k_2304, k_4608, k_13824, nI_add, pk_mul, pk_sub, nI_clamp, q_in, nI_ltI, nI_leI, nI_eq, forall_eq, e_shl, e_bit, e_b0, e_b1, e_bn, e_andn, fa_or, fa_and, e_m1, e_nneg]
    have fin : ∀ s, s = nI (wt u (i + 1)) → again (nI (i + 1)) s (upd w i (nI (wt u i))) := fun s hs => hag _ _ ⟨hs, fun x hx => by
      by_cases ex : x = i
      · subst ex; exact pk_us
      · rw [pk_un ex]; exact hw x (by omega)⟩
    split
    · exact fin _ (by rw [h2])
    · exact fin _ (congrArg nI (by omega))
  rintro again s w ⟨rfl, hw⟩
  unfold wp_X4_begin_L24
  try simp (disch := omega) only [k_0, k_1, k_2, k_3, k_4, k_6, k_7, k_10, k_11, k_12, k_13, k_14, k_16, k_32, k_36, k_40, k_41, k_42, k_43, k_49, k_64, k_80, k_96, k_97, k_100, k_109, k_110, k_127, k_128, k_146, k_147, k_160, k_2304, k_4608, k_13824, nI_add, pk_mul, pk_sub, nI_clamp, q_in, nI_ltI, nI_leI, nI_eq, forall_eq, e_shl, e_bit, e_b0, e_b1, e_bn, e_andn, fa_or, fa_and, e_m1, e_nneg]
  repeat (first | refine And.intro (fun hh => absurd hh (by omega)) (fun _ => ?_) | refine And.intro (fun _ => ?_) (fun hh => absurd hh (by omega)) | refine And.intro (by omega) ?_)
  refine for_X4_begin_L73 _ _ (wt u 6) (fun i t => ∀ j, j < i → t j = -1) ?_ ?_ (0) _ _ rfl (Nat.zero_le _) (fun j hj => absurd hj (Nat.not_lt_zero _))
  · intro again2 i t hi hJ hag
    unfold wp_X4_begin_L73
    try simp (disch := omega) only [k_0, k_1, k_2, k_3, k_4, k_6, k_7, k_10, k_11, k_12, k_13, k_14, k_16, k_32, k_36, k_40, k_41, k_42, k_43, k_49, k_64, k_80, k_96, k_97, k_100, k_109, k_110, k_127, k_128, k_146, k_147, k_160, k_2304, k_4608, k_13824, nI_add, pk_mul, pk_sub, nI_clamp, q_in, nI_ltI, nI_leI, nI_eq, forall_eq, e_shl, e_bit, e_b0, e_b1, e_bn, e_andn, fa_or, fa_and, e_m1, e_nneg]
    repeat (first | refine And.intro (fun hh => absurd hh (by omega)) (fun _ => ?_) | refine And.intro (fun _ => ?_) (fun hh => absurd hh (by omega)) | refine And.intro (by omega) ?_)
    refine hag _ (fun j hj => ?_)
    by_cases ej : j = i
    · subst ej; exact pk_us
    · rw [pk_un ej]; exact hJ j (by omega)
  · intro again2 t hJ
    unfold wp_X4_begin_L73
    try simp (disch := omega) only [k_0, k_1, k_2, k_3, k_4, k_6, k_7, k_10, k_11, k_12, k_13, k_14, k_16, k_32, k_36, k_40, k_41, k_42, k_43, k_49, k_64, k_80, k_96, k_97, k_100, k_109, k_110, k_127, k_128, k_146, k_147, k_160, k_2304, k_4608, k_13824, nI_add, pk_mul, pk_sub, nI_clamp, q_in, nI_ltI, nI_leI, nI_eq, forall_eq, e_shl, e_bit, e_b0, e_b1, e_bn, e_andn, fa_or, fa_and, e_m1, e_nneg]
    repeat (first | refine And.intro (fun hh => absurd hh (by omega)) (fun _ => ?_) | refine And.intro (fun _ => ?_) (fun hh => absurd hh (by omega)) | refine And.intro (by omega) ?_)
    refine hK a b c d _ w hP (fun j hj => ?_) hw
    by_cases ej : j = 0
    · subst ej; rw [pk_us]; simp [Tm_0]
    · rw [pk_un ej, hJ j hj]; simp [ej]
theorem s_open {u : List Nat} {t : Nat → Int32} {R : Nat → Bool} (hT : TA u t R) (hN : wt u 6 ≤ 2304) {pt : Int32} {b : Nat} (hb : b < wt u 6) (h16 : u.length ≤ 16) {K : Int32 → Int32 → Prop} (h1 : R b = true → K 1 (nI (Tm u b))) (h0 : R b = false → K 0 pt) : wp_X4_open (nI (wt u 6)) pt t (nI b) K := by
  have hl : Tm u b < 65536 := Nat.lt_of_lt_of_le (Tm_lt u b) (Nat.pow_le_pow_right (n := 2) (by decide) h16)
  unfold wp_X4_open
  try simp (disch := omega) only [k_0, k_1, k_2, k_3, k_4, k_6, k_7, k_10, k_11, k_12, k_13, k_14, k_16, k_32, k_36, k_40, k_41, k_42, k_43, k_49, k_64, k_80, k_96, k_97, k_100, k_109, k_110, k_127, k_128, k_146, k_147, k_160, k_2304, k_4608, k_13824, nI_add, pk_mul, pk_sub, nI_clamp, q_in, nI_ltI, nI_leI, nI_eq, forall_eq, e_shl, e_bit, e_b0, e_b1, e_bn, e_andn, fa_or, fa_and, e_m1, e_nneg]
  repeat (first | refine And.intro (fun hh => absurd hh (by omega)) (fun _ => ?_) | refine And.intro (fun _ => ?_) (fun hh => absurd hh (by omega)) | refine And.intro (by omega) ?_)
  rw [hT b hb]
  cases hR : R b with
  | true =>
    rw [if_pos rfl]
    refine ⟨fun _ => ⟨by omega, h1 hR⟩, fun q => absurd ((q_m1 (by omega)).mp q) id⟩
  | false =>
    rw [if_neg (by decide)]
    exact br_t' rfl (h0 hR)
theorem s_grow {u : List Nat} {t w bA pA lA yA : Nat → Int32} {fr : Nat → Nat} {k : Nat} (irr : ∀ a, ind fr a a = false) (sym : ∀ a b, ind fr a b = ind fr b a) (hu : ∀ x ∈ u, x < k) {R : Nat → Bool} (hP : PL fr u u.length lA yA bA pA) (hT : TA u t R) (hG : WG u w) (hN : wt u 6 ≤ 2304) {pt : Int32} {b x : Nat} (hb : b < wt u 6) (hx : x < 6) (h16 : u.length ≤ 16) {K : Int32 → Int32 → (Nat → Int32) → Prop} (h1 : R b = true → cc fr u b x = true → ∀ p t', TA u t' (fun j => R j || decide (j = b + wt u x)) → K (nI (b + wt u x)) p t') (h0 : ¬ (R b = true ∧ cc fr u b x = true) → ∀ p, K (-1) p t) : wp_X4_grow (nI (wt u 6)) pt bA pA t w (nI b) (nI x) K := by
  have hw6 := wt_mono u (show x ≤ 6 by omega)
  unfold wp_X4_grow
  refine s_open hT hN hb h16 (fun hR => ?_) (fun hR => br_t (by decide) (h0 (by rintro ⟨q, -⟩; rw [hR] at q; cases q) _))
  refine br_f (by decide) ?_
  try simp (disch := omega) only [k_0, k_1, k_2, k_3, k_4, k_6, k_7, k_10, k_11, k_12, k_13, k_14, k_16, k_32, k_36, k_40, k_41, k_42, k_43, k_49, k_64, k_80, k_96, k_97, k_100, k_109, k_110, k_127, k_128, k_146, k_147, k_160, k_2304, k_4608, k_13824, nI_add, pk_mul, pk_sub, nI_clamp, q_in, nI_ltI, nI_leI, nI_eq, forall_eq, e_shl, e_bit, e_b0, e_b1, e_bn, e_andn, fa_or, fa_and, e_m1, e_nneg]
  repeat (first | refine And.intro (fun hh => absurd hh (by omega)) (fun _ => ?_) | refine And.intro (fun _ => ?_) (fun hh => absurd hh (by omega)) | refine And.intro (by omega) ?_)
  rw [hG x hx]
  try simp (disch := omega) only [k_0, k_1, k_2, k_3, k_4, k_6, k_7, k_10, k_11, k_12, k_13, k_14, k_16, k_32, k_36, k_40, k_41, k_42, k_43, k_49, k_64, k_80, k_96, k_97, k_100, k_109, k_110, k_127, k_128, k_146, k_147, k_160, k_2304, k_4608, k_13824, nI_add, pk_mul, pk_sub, nI_clamp, q_in, nI_ltI, nI_leI, nI_eq, forall_eq, e_shl, e_bit, e_b0, e_b1, e_bn, e_andn, fa_or, fa_and, e_m1, e_nneg]
  refine s_nextPlace irr sym hP (by omega) (Tm_lt u b) hx (fun p hp hn => ?_) (fun hn => br_t rfl (h0 (by rintro ⟨-, q⟩; rw [cc_f hn] at q; cases q) _))
  have hlt := up_lt hb hx (nx_lt irr sym hu hn)
  refine br_f (by rw [q_m1 (by omega)]; exact id) ?_
  try simp (disch := omega) only [k_0, k_1, k_2, k_3, k_4, k_6, k_7, k_10, k_11, k_12, k_13, k_14, k_16, k_32, k_36, k_40, k_41, k_42, k_43, k_49, k_64, k_80, k_96, k_97, k_100, k_109, k_110, k_127, k_128, k_146, k_147, k_160, k_2304, k_4608, k_13824, nI_add, pk_mul, pk_sub, nI_clamp, q_in, nI_ltI, nI_leI, nI_eq, forall_eq, e_shl, e_bit, e_b0, e_b1, e_bn, e_andn, fa_or, fa_and, e_m1, e_nneg]
  repeat (first | refine And.intro (fun hh => absurd hh (by omega)) (fun _ => ?_) | refine And.intro (fun _ => ?_) (fun hh => absurd hh (by omega)) | refine And.intro (by omega) ?_)
  refine h1 hR (cc_t hn) _ _ (fun j hj => ?_)
  by_cases e : j = b + wt u x
  · rw [e, pk_us, Tm_up irr sym hu hn]; simp
  · rw [pk_un e, hT j hj]; simp [e]
