/-! roots and exponents -/
def rtN (u : List Nat) (e : Nat) : Nat → List Nat
  | 0 => []
  | i + 1 => if cntB u (u.getD i 0) i < cntB u (u.getD i 0) u.length / e then rtN u e i ++ [u.getD i 0] else rtN u e i
theorem rtN_s (u : List Nat) (e i : Nat) : rtN u e (i + 1) = if cntB u (u.getD i 0) i < cntB u (u.getD i 0) u.length / e then rtN u e i ++ [u.getD i 0] else rtN u e i := rfl
def rt (u : List Nat) (e : Nat) : List Nat := rtN u e u.length
theorem rtN_le (u : List Nat) (e : Nat) : ∀ i, (rtN u e i).length ≤ i
  | 0 => Nat.le_refl 0
  | i + 1 => by
    have := rtN_le u e i
    rw [rtN_s]
    split
    · simp; omega
    · omega
theorem rtN_mem (u : List Nat) (e : Nat) : ∀ i, i ≤ u.length → ∀ x ∈ rtN u e i, x ∈ u
  | 0, _, x, hx => absurd hx List.not_mem_nil
  | i + 1, hi, x, hx => by
    rw [rtN_s] at hx
    split at hx
    · rcases List.mem_append.mp hx with q | q
      · exact rtN_mem u e i (by omega) x q
      · rw [List.mem_singleton.mp q]; exact getD_mem (by omega)
    · exact rtN_mem u e i (by omega) x hx
theorem cnt_sum {u : List Nat} (hu : ∀ x ∈ u, x < 6) : ∀ i, i ≤ u.length → fb_sm (fun x => cntB u x i) 6 = i
  | 0, _ => rfl
  | i + 1, hi => by
    have ih := cnt_sum hu i (by omega)
    have h6 := hu _ (getD_mem (u := u) (i := i) (by omega))
    have h1 := fb_sm_upd (fun x => cntB u x i) (cntB u (u.getD i 0) i + 1) h6
    have h2 : fb_sm (fun x => cntB u x (i + 1)) 6 = fb_sm (fun k => if k = u.getD i 0 then cntB u (u.getD i 0) i + 1 else cntB u k i) 6 := fb_sm_cong (fun x _ => by
      rw [cntB_s]
      by_cases e : u.getD i 0 = x
      · subst e; rw [if_pos rfl]; try rw [if_pos rfl]
      · rw [if_neg e, if_neg (fun q => e q.symm)])
    omega
theorem rt_sum {u : List Nat} (hu : ∀ x ∈ u, x < 6) (e : Nat) : ∀ i, i ≤ u.length → (rtN u e i).length = fb_sm (fun x => min (cntB u x i) (cntB u x u.length / e)) 6
  | 0, _ => by
    have : fb_sm (fun x => min (cntB u x 0) (cntB u x u.length / e)) 6 = fb_sm (fun _ => 0) 6 := fb_sm_cong (fun x _ => Nat.zero_min _)
    rw [this]
    rfl
  | i + 1, hi => by
    have ih := rt_sum hu e i (by omega)
    have h6 := hu _ (getD_mem (u := u) (i := i) (by omega))
    have h1 := fb_sm_upd (fun x => min (cntB u x i) (cntB u x u.length / e)) (min (cntB u (u.getD i 0) i + 1) (cntB u (u.getD i 0) u.length / e)) h6
    have h2 : fb_sm (fun x => min (cntB u x (i + 1)) (cntB u x u.length / e)) 6 = fb_sm (fun k => if k = u.getD i 0 then min (cntB u (u.getD i 0) i + 1) (cntB u (u.getD i 0) u.length / e) else min (cntB u k i) (cntB u k u.length / e)) 6 := fb_sm_cong (fun x _ => by
      rw [cntB_s]
      by_cases e : u.getD i 0 = x
      · subst e; rw [if_pos rfl, if_pos rfl]
      · rw [if_neg e, if_neg (fun q => e q.symm)])
    rw [h2, rtN_s]
    split
    · rw [List.length_append, ih]
      simp only [List.length_singleton]
      omega
    · rw [ih]
      omega
def DV (u : List Nat) (e : Nat) : Prop := ∀ x, x < 6 → cntB u x u.length % e = 0
theorem cntB_mono (u : List Nat) (x : Nat) {a b : Nat} (h : a ≤ b) : cntB u x a ≤ cntB u x b := by
  rw [cntB_ct, cntB_ct]
  exact fb_ct_mono _ h
theorem rt_len {u : List Nat} (hu : ∀ x ∈ u, x < 6) {e : Nat} (he : 1 ≤ e) (hd : DV u e) : (rt u e).length * e = u.length := by
  have h1 := rt_sum hu e u.length (Nat.le_refl _)
  have h2 := cnt_sum hu u.length (Nat.le_refl _)
  have h3 : ∀ n, n ≤ 6 → fb_sm (fun x => min (cntB u x u.length) (cntB u x u.length / e)) n * e = fb_sm (fun x => cntB u x u.length) n := by
    intro n
    induction n with
    | zero => intro _; simp [fb_sm]
    | succ n ih =>
      intro hn
      rw [fb_sm_succ, fb_sm_succ, Nat.add_mul, ih (by omega)]
      congr 1
      rw [Nat.min_eq_right (Nat.div_le_self _ _)]
      exact Nat.div_mul_cancel (Nat.dvd_of_mod_eq_zero (hd n (by omega)))
  unfold rt
  rw [h1, h3 6 (Nat.le_refl _), h2]
def rep (r : List Nat) : Nat → List Nat
  | 0 => []
  | n + 1 => r ++ rep r n
theorem rep_len (r : List Nat) : ∀ n, (rep r n).length = r.length * n
  | 0 => rfl
  | n + 1 => by rw [rep, List.length_append, rep_len r n, Nat.mul_succ]; omega
theorem rep_mem {r : List Nat} : ∀ {n : Nat} {x : Nat}, x ∈ rep r n → x ∈ r
  | 0, x, h => absurd h List.not_mem_nil
  | n + 1, x, h => by
    rcases List.mem_append.mp h with q | q
    · exact q
    · exact rep_mem q
theorem getD_app2 {u w : List Nat} {i : Nat} (h : u.length ≤ i) : (u ++ w).getD i 0 = w.getD (i - u.length) 0 := by
  rw [List.getD_eq_getElem?_getD, List.getD_eq_getElem?_getD, List.getElem?_append_right h]
theorem rep_get {r : List Nat} : ∀ {n i : Nat}, i < r.length * n → (rep r n).getD i 0 = r.getD (i % r.length) 0
  | 0, i, h => by simp at h
  | n + 1, i, h => by
    rw [rep]
    rcases Nat.lt_or_ge i r.length with q | q
    · rw [getD_app q, Nat.mod_eq_of_lt q]
    · rw [getD_app2 q, rep_get (by rw [Nat.mul_succ] at h; omega), ← Nat.mod_eq_sub_mod q]
theorem dvd_mem {f : Nat → Nat → Bool} : ∀ {a w r : List Nat}, dvd f a w = some r → ∀ y ∈ r, y ∈ w
  | [], w, r, h, y, hy => by cases h; exact hy
  | x :: a, w, r, h, y, hy => by
    unfold dvd at h
    split at h
    · cases h
    · rename_i r1 hr
      exact rmv_mem hr y (dvd_mem h y hy)
def PW (fr : Nat → Nat) (u : List Nat) (e : Nat) : Prop := DV u e ∧ dvd (ind fr) (rep (rt u e) e) u = some []
def EXP (fr : Nat → Nat) (u : List Nat) (e : Nat) : Prop := 1 ≤ e ∧ e ≤ u.length ∧ PW fr u e ∧ ∀ e', e < e' → e' ≤ u.length → ¬ PW fr u e'
theorem EXP.one {fr : Nat → Nat} {u : List Nat} {e e' : Nat} (h : EXP fr u e) (h' : EXP fr u e') : e = e' := by
  rcases Nat.lt_trichotomy e e' with q | q | q
  · exact absurd h'.2.2.1 (h.2.2.2 e' q h'.2.1)
  · exact q
  · exact absurd h.2.2.1 (h'.2.2.2 e q h.2.1)
theorem rt_one {u : List Nat} : ∀ i, i ≤ u.length → rtN u 1 i = u.take i
  | 0, _ => by simp [rtN]
  | i + 1, hi => by
    rw [rtN_s, take_snoc (by omega), rt_one i (by omega), if_pos]
    rw [Nat.div_one]
    have h1 := cntB_mono u (u.getD i 0) (show i + 1 ≤ u.length by omega)
    rw [cntB_s, if_pos rfl] at h1
    omega
theorem PW_one {fr : Nat → Nat} (irr : ∀ a, ind fr a a = false) (sym : ∀ a b, ind fr a b = ind fr b a) (u : List Nat) : rt u 1 = u ∧ PW fr u 1 := by
  have h1 : rt u 1 = u := by
    unfold rt
    rw [rt_one _ (Nat.le_refl _), List.take_length]
  refine ⟨h1, fun x _ => Nat.mod_one _, ?_⟩
  rw [h1]
  show dvd (ind fr) (u ++ []) u = some []
  rw [List.append_nil]
  exact (dvd_nil irr sym u u).mpr (Eqv.rf _)
theorem s_draftPart {lt dl : Nat → Int32} {ds : Int32} {u : List Nat} (hW : WR (nI u.length) lt u) (hu : ∀ x ∈ u, x < 6) (h16 : u.length ≤ 16) {e : Nat} (he : 1 ≤ e) (heL : e ≤ u.length) {K : Int32 → Int32 → (Nat → Int32) → Prop} (h1 : DV u e → ∀ l, WR (nI (rt u e).length) l (rt u e) → K 1 (nI (rt u e).length) l) (h0 : ¬ DV u e → ∀ s l, K 0 s l) : wp_X10_draftPart ds dl (nI u.length) lt (nI e) K := by
  unfold wp_X10_draftPart wp_X9_empty
  try simp (disch := omega) only [k_0, k_1, k_2, k_3, k_4, k_6, k_7, k_10, k_11, k_12, k_13, k_14, k_16, k_32, k_36, k_40, k_41, k_42, k_43, k_49, k_64, k_80, k_96, k_97, k_100, k_109, k_110, k_127, k_128, k_146, k_147, k_160, k_2304, k_4608, k_13824, nI_add, pk_mul, pk_sub, nI_clamp, q_in, nI_ltI, nI_leI, nI_eq, forall_eq, e_shl, e_bit, e_b0, e_b1, e_bn, e_andn, fa_or, fa_and, e_m1, e_nneg]
  repeat (first | refine And.intro (fun hh => absurd hh (by omega)) (fun _ => ?_) | refine And.intro (fun _ => ?_) (fun hh => absurd hh (by omega)) | refine And.intro (by omega) ?_)
  refine for_X10_draftPart_L16 _ _ _ _ _ (u.length) (fun i s l => s = nI (rtN u e i).length ∧ WR s l (rtN u e i) ∧ ∀ j, j < i → cntB u (u.getD j 0) u.length % e = 0) ?_ ?_ (0) _ _ _ rfl (Nat.zero_le _) (⟨rfl, ⟨rfl, by simp [rtN], fun i hi => absurd hi (Nat.not_lt_zero _)⟩, fun j hj => absurd hj (Nat.not_lt_zero _)⟩)
  · rintro again i s l hi ⟨rfl, hl, hc⟩ hag
    have ui := hu _ (getD_mem hi)
    have c1 := cntB_le u (u.getD i 0) u.length
    have c2 := cntB_le u (u.getD i 0) i
    have c3 := rtN_le u e i
    have c4 : cntB u (u.getD i 0) u.length / e ≤ cntB u (u.getD i 0) u.length := Nat.div_le_self _ _
    unfold wp_X10_draftPart_L16
    try simp (disch := omega) only [k_0, k_1, k_2, k_3, k_4, k_6, k_7, k_10, k_11, k_12, k_13, k_14, k_16, k_32, k_36, k_40, k_41, k_42, k_43, k_49, k_64, k_80, k_96, k_97, k_100, k_109, k_110, k_127, k_128, k_146, k_147, k_160, k_2304, k_4608, k_13824, nI_add, pk_mul, pk_sub, nI_clamp, q_in, nI_ltI, nI_leI, nI_eq, forall_eq, e_shl, e_bit, e_b0, e_b1, e_bn, e_andn, fa_or, fa_and, e_m1, e_nneg]
    repeat (first | refine And.intro (fun hh => absurd hh (by omega)) (fun _ => ?_) | refine And.intro (fun _ => ?_) (fun hh => absurd hh (by omega)) | refine And.intro (by omega) ?_)
    refine s_at hW hi (s_countBefore hW hu ui (Nat.le_refl _) ?_)
    rw [pk_rem (by omega) (by omega) (by omega), pk_div (by omega) (by omega) (by omega)]
    have c5 : cntB u (u.getD i 0) u.length % e < e := Nat.mod_lt _ (by omega)
    try simp (disch := omega) only [k_0, k_1, k_2, k_3, k_4, k_6, k_7, k_10, k_11, k_12, k_13, k_14, k_16, k_32, k_36, k_40, k_41, k_42, k_43, k_49, k_64, k_80, k_96, k_97, k_100, k_109, k_110, k_127, k_128, k_146, k_147, k_160, k_2304, k_4608, k_13824, nI_add, pk_mul, pk_sub, nI_clamp, q_in, nI_ltI, nI_leI, nI_eq, forall_eq, e_shl, e_bit, e_b0, e_b1, e_bn, e_andn, fa_or, fa_and, e_m1, e_nneg]
    refine ⟨by omega, fun hz => s_countBefore hW hu ui (by omega) ⟨by omega, ?_⟩, fun hz => h0 (fun q => hz (q _ ui)) _ _⟩
    have hc' : ∀ j, j < i + 1 → cntB u (u.getD j 0) u.length % e = 0 := by
      intro j hj
      by_cases ej : j = i
      · subst ej; exact hz
      · exact hc j (by omega)
    rw [rtN_s] at hag
    try simp (disch := omega) only [k_0, k_1, k_2, k_3, k_4, k_6, k_7, k_10, k_11, k_12, k_13, k_14, k_16, k_32, k_36, k_40, k_41, k_42, k_43, k_49, k_64, k_80, k_96, k_97, k_100, k_109, k_110, k_127, k_128, k_146, k_147, k_160, k_2304, k_4608, k_13824, nI_add, pk_mul, pk_sub, nI_clamp, q_in, nI_ltI, nI_leI, nI_eq, forall_eq, e_shl, e_bit, e_b0, e_b1, e_bn, e_andn, fa_or, fa_and, e_m1, e_nneg]
    refine ⟨fun hq => ?_, fun hq => ?_⟩
    · rw [if_neg (by omega)] at hag
      exact hag _ _ ⟨rfl, hl, hc'⟩
    · rw [if_pos (by omega)] at hag
      exact s_push hl (by omega) (fun l' hl' => hag _ _ ⟨rfl, hl', hc'⟩)
  · rintro again s l ⟨rfl, hl, hc⟩
    unfold wp_X10_draftPart_L16
    try simp (disch := omega) only [k_0, k_1, k_2, k_3, k_4, k_6, k_7, k_10, k_11, k_12, k_13, k_14, k_16, k_32, k_36, k_40, k_41, k_42, k_43, k_49, k_64, k_80, k_96, k_97, k_100, k_109, k_110, k_127, k_128, k_146, k_147, k_160, k_2304, k_4608, k_13824, nI_add, pk_mul, pk_sub, nI_clamp, q_in, nI_ltI, nI_leI, nI_eq, forall_eq, e_shl, e_bit, e_b0, e_b1, e_bn, e_andn, fa_or, fa_and, e_m1, e_nneg]
    repeat (first | refine And.intro (fun hh => absurd hh (by omega)) (fun _ => ?_) | refine And.intro (fun _ => ?_) (fun hh => absurd hh (by omega)) | refine And.intro (by omega) ?_)
    refine h1 (fun x hx => ?_) _ hl
    by_cases hm : ∃ j, j < u.length ∧ u.getD j 0 = x
    · obtain ⟨j, hj, rfl⟩ := hm
      exact hc j hj
    · have : cntB u x u.length = 0 := by
        rw [cntB_ct, fb_ct_zero]
        intro j hj
        exact decide_eq_false (fun q => hm ⟨j, hj, q⟩)
      rw [this]
      exact Nat.zero_mod _
theorem s_isDraftPower {free dl lt lA yA bA pA : Nat → Int32} {pl ps pt : Int32} {fr : Nat → Nat} {k : Nat} (irr : ∀ a, ind fr a a = false) (sym : ∀ a b, ind fr a b = ind fr b a) (hf : FA free fr) (hk : k ≤ 6) {u r : List Nat} (hW : WR (nI u.length) lt u) (hu : ∀ x ∈ u, x < k) (h16 : u.length ≤ 16) (hD : WR (nI r.length) dl r) (hr : ∀ x ∈ r, x < 6) {e : Nat} (he : e ≤ 16) {K : Int32 → Int32 → Int32 → Int32 → (Nat → Int32) → (Nat → Int32) → (Nat → Int32) → (Nat → Int32) → Prop} (hK : ∀ s1 s2 s3 a b c d, K (bI (dvd (ind fr) (rep r e) u == some [])) s1 s2 s3 a b c d) : wp_X10_isDraftPower (nI k) free (nI r.length) dl pl ps pt lA yA bA pA (nI u.length) lt (nI e) K := by
  unfold wp_X10_isDraftPower
  refine s_lay hf hk hW hu (fun a b c d hP => ?_)
  refine for_X10_isDraftPower_L17 _ _ _ _ _ _ _ (e) (fun i t => ∃ T r', t = nI T ∧ TK u T r' ∧ dvd (ind fr) (rep r e) u = dvd (ind fr) (rep r (e - i)) r') ?_ ?_ (0) _ _ rfl (Nat.zero_le _) (⟨0, u, rfl, TK.start u, rfl⟩)
  · rintro again i t hi ⟨T, r', rfl, hT, hd⟩ hag
    unfold wp_X10_isDraftPower_L17
    try simp (disch := omega) only [k_0, k_1, k_2, k_3, k_4, k_6, k_7, k_10, k_11, k_12, k_13, k_14, k_16, k_32, k_36, k_40, k_41, k_42, k_43, k_49, k_64, k_80, k_96, k_97, k_100, k_109, k_110, k_127, k_128, k_146, k_147, k_160, k_2304, k_4608, k_13824, nI_add, pk_mul, pk_sub, nI_clamp, q_in, nI_ltI, nI_leI, nI_eq, forall_eq, e_shl, e_bit, e_b0, e_b1, e_bn, e_andn, fa_or, fa_and, e_m1, e_nneg]
    repeat (first | refine And.intro (fun hh => absurd hh (by omega)) (fun _ => ?_) | refine And.intro (fun _ => ?_) (fun hh => absurd hh (by omega)) | refine And.intro (by omega) ?_)
    have e1 : e - i = (e - (i + 1)) + 1 := by omega
    rw [e1, rep, dvd_app] at hd
    refine s_takeAll irr sym hP (by omega) hT hD hr (fun r2 T2 h1 hT2 => ?_) (fun r2 T2 h1 hT2 => ?_)
    · rw [h1] at hd
      refine br_f' (by decide) ?_
      try simp (disch := omega) only [k_0, k_1, k_2, k_3, k_4, k_6, k_7, k_10, k_11, k_12, k_13, k_14, k_16, k_32, k_36, k_40, k_41, k_42, k_43, k_49, k_64, k_80, k_96, k_97, k_100, k_109, k_110, k_127, k_128, k_146, k_147, k_160, k_2304, k_4608, k_13824, nI_add, pk_mul, pk_sub, nI_clamp, q_in, nI_ltI, nI_leI, nI_eq, forall_eq, e_shl, e_bit, e_b0, e_b1, e_bn, e_andn, fa_or, fa_and, e_m1, e_nneg]
      exact hag _ ⟨T2, r2, rfl, hT2, hd⟩
    · rw [h1] at hd
      refine br_t' (by decide) ?_
      rw [hd] at hK
      exact hK _ _ _ _ _ _ _
  · rintro again t ⟨T, r', rfl, hT, hd⟩
    unfold wp_X10_isDraftPower_L17
    try simp (disch := omega) only [k_0, k_1, k_2, k_3, k_4, k_6, k_7, k_10, k_11, k_12, k_13, k_14, k_16, k_32, k_36, k_40, k_41, k_42, k_43, k_49, k_64, k_80, k_96, k_97, k_100, k_109, k_110, k_127, k_128, k_146, k_147, k_160, k_2304, k_4608, k_13824, nI_add, pk_mul, pk_sub, nI_clamp, q_in, nI_ltI, nI_leI, nI_eq, forall_eq, e_shl, e_bit, e_b0, e_b1, e_bn, e_andn, fa_or, fa_and, e_m1, e_nneg]
    repeat (first | refine And.intro (fun hh => absurd hh (by omega)) (fun _ => ?_) | refine And.intro (fun _ => ?_) (fun hh => absurd hh (by omega)) | refine And.intro (by omega) ?_)
    refine s_allTaken hT h16 ⟨bI_01 _, ?_⟩
    rw [Nat.sub_self] at hd
    have h2 : (dvd (ind fr) (rep r e) u == some []) = decide (r' = []) := by
      rw [hd]
      show (some r' == some []) = _
      cases r' <;> rfl
    rw [h2] at hK
    exact hK _ _ _ _ _ _ _
theorem s_draftRoot {free dl lt lA yA bA pA : Nat → Int32} {ds pl ps pt : Int32} {fr : Nat → Nat} {k : Nat} (irr : ∀ a, ind fr a a = false) (sym : ∀ a b, ind fr a b = ind fr b a) (hf : FA free fr) (hk : k ≤ 6) {u : List Nat} (hW : WR (nI u.length) lt u) (hu : ∀ x ∈ u, x < k) (h16 : u.length ≤ 16) (h0 : 1 ≤ u.length) {K : Int32 → Int32 → (Nat → Int32) → Int32 → Int32 → Int32 → (Nat → Int32) → (Nat → Int32) → (Nat → Int32) → (Nat → Int32) → Prop} (hK : ∀ e l s1 s2 s3 a b c d, EXP fr u e → WR (nI (rt u e).length) l (rt u e) → K (nI e) (nI (rt u e).length) l s1 s2 s3 a b c d) : wp_X10_draftRoot (nI k) free ds dl pl ps pt lA yA bA pA (nI u.length) lt K := by
  have hu6 : ∀ x ∈ u, x < 6 := fun x hx => Nat.lt_of_lt_of_le (hu x hx) hk
  unfold wp_X10_draftRoot
  refine lp_X10_draftRoot_L5_of _ _ _ _ _ _ (fun x _ _ _ _ _ _ _ _ _ => ∃ e, 1 ≤ e ∧ e ≤ u.length ∧ x = nI e ∧ ∀ e', e < e' → e' ≤ u.length → ¬ PW fr u e') (fun x _ _ _ _ _ _ _ _ _ => x.toNatClampNeg) ?_ _ _ _ _ _ _ _ _ _ _ (⟨u.length, h0, Nat.le_refl _, rfl, fun e' h1 h2 => by omega⟩)
  rintro again x s l s1 s2 s3 a b c d ⟨e, h1, h2, rfl, h3⟩ hag
  unfold wp_X10_draftRoot_L5
  try simp (disch := omega) only [k_0, k_1, k_2, k_3, k_4, k_6, k_7, k_10, k_11, k_12, k_13, k_14, k_16, k_32, k_36, k_40, k_41, k_42, k_43, k_49, k_64, k_80, k_96, k_97, k_100, k_109, k_110, k_127, k_128, k_146, k_147, k_160, k_2304, k_4608, k_13824, nI_add, pk_mul, pk_sub, nI_clamp, q_in, nI_ltI, nI_leI, nI_eq, forall_eq, e_shl, e_bit, e_b0, e_b1, e_bn, e_andn, fa_or, fa_and, e_m1, e_nneg]
  refine ⟨fun q => ?_, fun q => ?_⟩
  · have e1 : e = 1 := by omega
    subst e1
    obtain ⟨p1, p2⟩ := PW_one irr sym u
    refine s_become9 (fun l' hl' => ?_)
    have hw' := hW.congr hl'
    have := hK 1 l' s1 s2 s3 a b c d ⟨Nat.le_refl _, h0, p2, h3⟩ (by rw [p1]; exact hw')
    rw [p1] at this
    exact this
  · have next : ¬ PW fr u e → ∀ s l s1 s2 s3 a b c d, again (nI e + (-1)) s l s1 s2 s3 a b c d := by
      intro hn s l s1 s2 s3 a b c d
      have e1 : nI e + (-1) = nI (e - 1) := by rw [show e = (e - 1) + 1 by omega, pk_m1]; simp
      rw [e1]
      refine hag _ _ _ _ _ _ _ _ _ _ ⟨e - 1, by omega, by omega, rfl, fun e' g1 g2 => ?_⟩ ?_
      · by_cases q2 : e' = e
        · subst q2; exact hn
        · exact h3 e' (by omega) g2
      · rw [nI_clamp (by omega), nI_clamp (by omega)]
        omega
    have rm : ∀ x ∈ rt u e, x < 6 := fun x hx => hu6 x (rtN_mem u e u.length (Nat.le_refl _) x hx)
    refine s_draftPart hW hu6 h16 h1 h2 (fun hdv l' hl' => ?_) (fun hdv s' l' => ?_)
    · refine br_f (by decide) (s_isDraftPower irr sym hf hk hW hu h16 hl' rm (by omega) (fun s1 s2 s3 a b c d => ?_))
      cases hd : dvd (ind fr) (rep (rt u e) e) u == some []
      · refine br_t (by decide) ?_
        refine next (fun hp => ?_) _ _ _ _ _ _ _ _ _
        rw [hp.2] at hd
        cases hd
      · refine br_f (by decide) ?_
        rw [beq_iff_eq] at hd
        exact hK e l' _ _ _ _ _ _ _ ⟨h1, h2, ⟨hdv, hd⟩, h3⟩ hl'
    · refine br_t (by decide) ?_
      exact next (fun hp => hdv hp.1) _ _ _ _ _ _ _ _ _
