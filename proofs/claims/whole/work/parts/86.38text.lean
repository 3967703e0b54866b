/-! the text, and where its fault is -/
def TX (sz : Int32) (by1 : Nat → Int32) (ln : Int32) (tx1 : Nat → Int32) : Prop := ∃ tx : List Nat, tx.length ≤ 80 ∧ (∀ b ∈ tx, b < 128) ∧ sz = nI tx.length ∧ ln = nI tx.length ∧ RW by1 tx ∧ RW tx1 tx
theorem M_append {sz ln x1 : Int32} {by1 tx1 : Nat → Int32} (hT : TX sz by1 ln tx1) {K : Int32 → Int32 → (Nat → Int32) → Prop} (hK : ∀ r sz' by', (∀ Q : Int32 → Int32 → (Nat → Int32) → Prop, (∀ ln' tx', TX sz' by' ln' tx' → Q r ln' tx') → wp_X11_append ln tx1 x1 Q) → K r sz' by') : wp_X10_append sz by1 x1 K := by
  have hT0 := hT
  obtain ⟨tx, h80, h128, rfl, rfl, hb, ht⟩ := hT
  unfold wp_X10_append
  by_cases h1 : x1 < 0
  · refine br_t h1 (hK _ _ _ (fun Q hQ => ?_))
    unfold wp_X11_append
    refine s_inN (Or.inl h1) ?_
    (first | refine br_t (by decide) ?_ | refine br_f (by decide) ?_ | refine br_t' (by decide) ?_ | refine br_f' (by decide) ?_)
    exact hQ _ _ hT0
  · refine br_f h1 ?_
    by_cases h2 : x1 ≤ 127
    · obtain ⟨c, hc, rfl⟩ := nI_of2 (n := 127) (by decide) h1 h2
      refine br_t h2 ?_
      try simp (disch := omega) only [k_0, k_1, k_2, k_3, k_4, k_6, k_7, k_10, k_11, k_12, k_13, k_14, k_16, k_32, k_36, k_40, k_41, k_42, k_43, k_49, k_64, k_80, k_96, k_97, k_100, k_109, k_110, k_127, k_128, k_146, k_147, k_160, k_2304, k_4608, k_13824, nI_add, pk_mul, pk_sub, nI_clamp, q_in, nI_ltI, nI_leI, nI_eq, forall_eq, e_shl, e_bit, e_b0, e_b1, e_bn, e_andn, fa_or, fa_and, e_m1, e_nneg]
      refine ⟨fun hl => ?_, fun hl => ?_⟩
      · unfold wp_X7_push
        try simp (disch := omega) only [k_0, k_1, k_2, k_3, k_4, k_6, k_7, k_10, k_11, k_12, k_13, k_14, k_16, k_32, k_36, k_40, k_41, k_42, k_43, k_49, k_64, k_80, k_96, k_97, k_100, k_109, k_110, k_127, k_128, k_146, k_147, k_160, k_2304, k_4608, k_13824, nI_add, pk_mul, pk_sub, nI_clamp, q_in, nI_ltI, nI_leI, nI_eq, forall_eq, e_shl, e_bit, e_b0, e_b1, e_bn, e_andn, fa_or, fa_and, e_m1, e_nneg]
        repeat (first | refine And.intro (fun hh => absurd hh (by omega)) (fun _ => ?_) | refine And.intro (fun _ => ?_) (fun hh => absurd hh (by omega)) | refine And.intro (by omega) ?_)
        refine hK _ _ _ (fun Q hQ => ?_)
        unfold wp_X11_append
        refine s_in (lo := 0) (hi := 127) (Nat.zero_le _) hc (by decide) ?_
        (first | refine br_t (by decide) ?_ | refine br_f (by decide) ?_ | refine br_t' (by decide) ?_ | refine br_f' (by decide) ?_)
        try simp (disch := omega) only [k_0, k_1, k_2, k_3, k_4, k_6, k_7, k_10, k_11, k_12, k_13, k_14, k_16, k_32, k_36, k_40, k_41, k_42, k_43, k_49, k_64, k_80, k_96, k_97, k_100, k_109, k_110, k_127, k_128, k_146, k_147, k_160, k_2304, k_4608, k_13824, nI_add, pk_mul, pk_sub, nI_clamp, q_in, nI_ltI, nI_leI, nI_eq, forall_eq, e_shl, e_bit, e_b0, e_b1, e_bn, e_andn, fa_or, fa_and, e_m1, e_nneg]
        refine ⟨fun _ => ⟨by omega, hQ _ _ ⟨tx ++ [c], by simp; omega, fun b hb2 => ?_, by simp, by simp, hb.push c, ht.push c⟩⟩, fun e => by omega⟩
        rcases List.mem_append.mp hb2 with q | q
        · exact h128 b q
        · rw [List.mem_singleton.mp q]; omega
      · refine hK _ _ _ (fun Q hQ => ?_)
        unfold wp_X11_append
        refine s_in (lo := 0) (hi := 127) (Nat.zero_le _) hc (by decide) ?_
        (first | refine br_t (by decide) ?_ | refine br_f (by decide) ?_ | refine br_t' (by decide) ?_ | refine br_f' (by decide) ?_)
        try simp (disch := omega) only [k_0, k_1, k_2, k_3, k_4, k_6, k_7, k_10, k_11, k_12, k_13, k_14, k_16, k_32, k_36, k_40, k_41, k_42, k_43, k_49, k_64, k_80, k_96, k_97, k_100, k_109, k_110, k_127, k_128, k_146, k_147, k_160, k_2304, k_4608, k_13824, nI_add, pk_mul, pk_sub, nI_clamp, q_in, nI_ltI, nI_leI, nI_eq, forall_eq, e_shl, e_bit, e_b0, e_b1, e_bn, e_andn, fa_or, fa_and, e_m1, e_nneg]
        exact ⟨fun e => absurd (by omega) e, fun _ => hQ _ _ hT0⟩
    · refine br_f h2 (hK _ _ _ (fun Q hQ => ?_))
      unfold wp_X11_append
      refine s_inN (Or.inr (fa_of_nle h2)) ?_
      (first | refine br_t (by decide) ?_ | refine br_f (by decide) ?_ | refine br_t' (by decide) ?_ | refine br_f' (by decide) ?_)
      exact hQ _ _ hT0
theorem M_clearText {sz ln : Int32} {by1 tx1 : Nat → Int32} (hT : TX sz by1 ln tx1) {K : Int32 → Int32 → Prop} (hK : ∀ r sz', (∀ Q : Int32 → Int32 → Prop, (∀ ln', TX sz' by1 ln' tx1 → Q r ln') → wp_X11_clearText ln Q) → K r sz') : wp_X10_clearText sz K := by
  obtain ⟨tx, h80, h128, rfl, rfl, hb, ht⟩ := hT
  unfold wp_X10_clearText wp_X7_empty
  refine hK _ _ (fun Q hQ => ?_)
  unfold wp_X11_clearText
  exact hQ _ ⟨[], by simp, fun b hb => absurd hb List.not_mem_nil, rfl, rfl, fun i hi => absurd hi (Nat.not_lt_zero _), fun i hi => absurd hi (Nat.not_lt_zero _)⟩
/-- reading a byte: whether an atom is needed, how many brackets are open -/
def fstep (k : Nat) (nd : Bool) (d c : Nat) : Option (Bool × Nat) :=
  if c = 49 ∨ (97 ≤ c ∧ c < 97 + k) then some (false, d)
  else if c = 40 then some (true, d + 1)
  else if nd = true then none
  else if c = 43 then some (true, d)
  else if c = 41 ∧ 0 < d then some (false, d - 1)
  else if c = 42 then some (false, d)
  else none
def fs (k : Nat) (tx : List Nat) : Nat → Option (Bool × Nat)
  | 0 => some (true, 0)
  | i + 1 => match fs k tx i with
    | none => none
    | some s => fstep k s.1 s.2 (tx.getD i 0)
theorem fs_s {k : Nat} {tx : List Nat} {i : Nat} {nd : Bool} {d : Nat} (h : fs k tx i = some (nd, d)) : fs k tx (i + 1) = fstep k nd d (tx.getD i 0) := by rw [fs, h]
theorem fs_none {k : Nat} {tx : List Nat} {i : Nat} (h : fs k tx i = none) : ∀ d, fs k tx (i + d) = none
  | 0 => h
  | d + 1 => by rw [← Nat.add_assoc, fs, fs_none h d]
theorem fs_le {k : Nat} {tx : List Nat} : ∀ {i : Nat} {nd : Bool} {d : Nat}, fs k tx i = some (nd, d) → d ≤ i
  | 0, nd, d, h => by
    have : d = 0 := by cases h; rfl
    omega
  | i + 1, nd, d, h => by
    cases hp : fs k tx i with
    | none => rw [fs, hp] at h; cases h
    | some s =>
      obtain ⟨nd', d'⟩ := s
      have ih := fs_le hp
      rw [fs_s hp] at h
      unfold fstep at h
      split at h
      · cases h; omega
      · split at h
        · cases h; omega
        · split at h
          · cases h
          · split at h
            · cases h; omega
            · split at h
              · cases h; omega
              · split at h
                · cases h; omega
                · cases h
def FLT (k : Nat) (tx : List Nat) (r : Int32) : Prop := (∃ i s, i < tx.length ∧ fs k tx i = some s ∧ fs k tx (i + 1) = none ∧ r = nI i) ∨ ∃ nd d, fs k tx tx.length = some (nd, d) ∧ (((nd = true ∨ 0 < d) ∧ r = nI tx.length) ∨ (nd = false ∧ d = 0 ∧ r = -1))
theorem FLT.one {k : Nat} {tx : List Nat} {r r' : Int32} (h : FLT k tx r) (h' : FLT k tx r') : r = r' := by
  have late : ∀ i j, i < j → fs k tx (i + 1) = none → fs k tx j = none := by
    intro i j hij hn
    have := fs_none hn (j - (i + 1))
    rw [show i + 1 + (j - (i + 1)) = j by omega] at this
    exact this
  rcases h with ⟨i, s, a1, a2, a3, a4⟩ | ⟨nd, d, a1, a2⟩
  · rcases h' with ⟨j, s', b1, b2, b3, b4⟩ | ⟨nd', d', b1, -⟩
    · rcases Nat.lt_trichotomy i j with q | q | q
      · rw [late i j q a3] at b2; cases b2
      · subst q; rw [a4, b4]
      · rw [late j i q b3] at a2; cases a2
    · rw [late i _ a1 a3] at b1; cases b1
  · rcases h' with ⟨j, s', b1, b2, b3, b4⟩ | ⟨nd', d', b1, b2⟩
    · rw [late j _ b1 b3] at a1; cases a1
    · rw [a1] at b1
      cases b1
      rcases a2 with ⟨c1, c2⟩ | ⟨c1, c2, c3⟩
      · rcases b2 with ⟨e1, e2⟩ | ⟨e1, e2, e3⟩
        · rw [c2, e2]
        · rcases c1 with c1 | c1
          · rw [e1] at c1; cases c1
          · omega
      · rcases b2 with ⟨e1, e2⟩ | ⟨e1, e2, e3⟩
        · rcases e1 with e1 | e1
          · rw [c1] at e1; cases e1
          · omega
        · rw [c3, e3]
def OKT (k : Nat) (tx : List Nat) : Prop := fs k tx tx.length = some (false, 0)
theorem FLT.ok {k : Nat} {tx : List Nat} (h : FLT k tx (-1)) (h80 : tx.length ≤ 80) : OKT k tx := by
  rcases h with ⟨i, s, a1, a2, a3, a4⟩ | ⟨nd, d, a1, ⟨-, a2⟩ | ⟨a2, a3, -⟩⟩
  · exact absurd ((q_m1 (n := i) (by omega)).mp a4.symm) id
  · exact absurd ((q_m1 (n := tx.length) (by omega)).mp a2.symm) id
  · rw [a2, a3] at a1; exact a1
theorem FLT.no {k : Nat} {tx : List Nat} {r : Int32} (h : FLT k tx r) (hne : r ≠ -1) : ∃ i, i ≤ tx.length ∧ r = nI i := by
  rcases h with ⟨i, s, a1, a2, a3, a4⟩ | ⟨nd, d, a1, ⟨-, a2⟩ | ⟨a2, a3, a4⟩⟩
  · exact ⟨i, by omega, a4⟩
  · exact ⟨_, Nat.le_refl _, a2⟩
  · exact absurd a4 hne
theorem s_tat {by1 : Nat → Int32} {tx : List Nat} (h80 : tx.length ≤ 80) (hb : RW by1 tx) {i : Nat} (hi : i < tx.length) {K : Int32 → Prop} (hK : K (nI (tx.getD i 0))) : wp_X7_at (nI tx.length) by1 (nI i) K := by
  unfold wp_X7_at
  try simp (disch := omega) only [k_0, k_1, k_2, k_3, k_4, k_6, k_7, k_10, k_11, k_12, k_13, k_14, k_16, k_32, k_36, k_40, k_41, k_42, k_43, k_49, k_64, k_80, k_96, k_97, k_100, k_109, k_110, k_127, k_128, k_146, k_147, k_160, k_2304, k_4608, k_13824, nI_add, pk_mul, pk_sub, nI_clamp, q_in, nI_ltI, nI_leI, nI_eq, forall_eq, e_shl, e_bit, e_b0, e_b1, e_bn, e_andn, fa_or, fa_and, e_m1, e_nneg]
  repeat (first | refine And.intro (fun hh => absurd hh (by omega)) (fun _ => ?_) | refine And.intro (fun _ => ?_) (fun hh => absurd hh (by omega)) | refine And.intro (by omega) ?_)
  rw [hb i hi]
  exact hK
theorem s_faultAt {by1 : Nat → Int32} {tx : List Nat} {k : Nat} (hk : k ≤ 6) (h80 : tx.length ≤ 80) (h128 : ∀ b ∈ tx, b < 128) (hb : RW by1 tx) {K : Int32 → Prop} (hK : ∀ r, FLT k tx r → K r) : wp_X7_faultAt (nI tx.length) by1 (nI k) K := by
  unfold wp_X7_faultAt
  refine for_X7_faultAt_L7 _ _ _ _ _ _ (tx.length) (fun i x y => ∃ nd d, x = bI nd ∧ y = nI d ∧ fs k tx i = some (nd, d)) ?_ ?_ (0) _ _ _ rfl (Nat.zero_le _) (⟨true, 0, rfl, rfl, rfl⟩)
  · rintro again i x y hi ⟨nd, d, rfl, rfl, hs⟩ hag
    have c128 := h128 _ (getD_mem hi)
    have dle := fs_le hs
    have ok : ∀ nd' d', fstep k nd d (tx.getD i 0) = some (nd', d') → again (bI nd') (nI d') (nI (i + 1)) := fun nd' d' h => hag _ _ ⟨nd', d', rfl, rfl, by rw [fs_s hs]; exact h⟩
    have bad : fstep k nd d (tx.getD i 0) = none → K (nI i) := fun h => hK _ (Or.inl ⟨i, _, hi, hs, by rw [fs_s hs]; exact h, rfl⟩)
    unfold wp_X7_faultAt_L7
    try simp (disch := omega) only [k_0, k_1, k_2, k_3, k_4, k_6, k_7, k_10, k_11, k_12, k_13, k_14, k_16, k_32, k_36, k_40, k_41, k_42, k_43, k_49, k_64, k_80, k_96, k_97, k_100, k_109, k_110, k_127, k_128, k_146, k_147, k_160, k_2304, k_4608, k_13824, nI_add, pk_mul, pk_sub, nI_clamp, q_in, nI_ltI, nI_leI, nI_eq, forall_eq, e_shl, e_bit, e_b0, e_b1, e_bn, e_andn, fa_or, fa_and, e_m1, e_nneg]
    repeat (first | refine And.intro (fun hh => absurd hh (by omega)) (fun _ => ?_) | refine And.intro (fun _ => ?_) (fun hh => absurd hh (by omega)) | refine And.intro (by omega) ?_)
    refine s_tat h80 hb hi ?_
    generalize tx.getD i 0 = c at *
    try simp (disch := omega) only [k_0, k_1, k_2, k_3, k_4, k_6, k_7, k_10, k_11, k_12, k_13, k_14, k_16, k_32, k_36, k_40, k_41, k_42, k_43, k_49, k_64, k_80, k_96, k_97, k_100, k_109, k_110, k_127, k_128, k_146, k_147, k_160, k_2304, k_4608, k_13824, nI_add, pk_mul, pk_sub, nI_clamp, q_in, nI_ltI, nI_leI, nI_eq, forall_eq, e_shl, e_bit, e_b0, e_b1, e_bn, e_andn, fa_or, fa_and, e_m1, e_nneg]
    by_cases hL : c = 49 ∨ (97 ≤ c ∧ c < 97 + k)
    · have h := ok false d (by unfold fstep; rw [if_pos hL])
      exact ⟨fun _ => h, fun h49 => ⟨fun hlt => absurd hlt (by omega), fun _ => ⟨fun hge => absurd hge (by omega), fun _ => h⟩⟩⟩
    · have j103 : ∀ kz, c ≠ 40 → nd = false → c ≠ 43 → ¬ (c = 41 ∧ 0 < d) → wp_X7_faultAt_J103 K again (fun x => K x) (fun x => K x) kz (bI nd) (nI d) (nI i) (nI c) := by
        intro kz h40 hnd h43 h41
        subst hnd
        unfold wp_X7_faultAt_J103
        try simp (disch := omega) only [k_0, k_1, k_2, k_3, k_4, k_6, k_7, k_10, k_11, k_12, k_13, k_14, k_16, k_32, k_36, k_40, k_41, k_42, k_43, k_49, k_64, k_80, k_96, k_97, k_100, k_109, k_110, k_127, k_128, k_146, k_147, k_160, k_2304, k_4608, k_13824, nI_add, pk_mul, pk_sub, nI_clamp, q_in, nI_ltI, nI_leI, nI_eq, forall_eq, e_shl, e_bit, e_b0, e_b1, e_bn, e_andn, fa_or, fa_and, e_m1, e_nneg]
        refine ⟨fun e => ok false d ?_, fun e => bad ?_⟩
        · unfold fstep; rw [if_neg hL, if_neg h40, if_neg (by decide), if_neg h43, if_neg h41, if_pos e]
        · unfold fstep; rw [if_neg hL, if_neg h40, if_neg (by decide), if_neg h43, if_neg h41, if_neg e]
      have j52 : ∀ kz, wp_X7_faultAt_J52 K again (fun x => K x) (fun x => K x) kz (bI nd) (nI d) (nI i) (nI c) := by
        intro kz
        unfold wp_X7_faultAt_J52
        try simp (disch := omega) only [k_0, k_1, k_2, k_3, k_4, k_6, k_7, k_10, k_11, k_12, k_13, k_14, k_16, k_32, k_36, k_40, k_41, k_42, k_43, k_49, k_64, k_80, k_96, k_97, k_100, k_109, k_110, k_127, k_128, k_146, k_147, k_160, k_2304, k_4608, k_13824, nI_add, pk_mul, pk_sub, nI_clamp, q_in, nI_ltI, nI_leI, nI_eq, forall_eq, e_shl, e_bit, e_b0, e_b1, e_bn, e_andn, fa_or, fa_and, e_m1, e_nneg]
        refine ⟨fun h40 => ⟨fun hz => ?_, fun hz => ?_⟩, fun h40 => ok true (d + 1) (by unfold fstep; rw [if_neg hL, if_pos h40])⟩
        · have hnd : nd = false := by
            cases nd with
            | false => rfl
            | true => exact absurd hz (by decide)
          refine ⟨fun h43 => ⟨fun h41 => j103 kz h40 hnd h43 (fun q => h41 q.1), fun h41 => ⟨fun hd => j103 kz h40 hnd h43 (fun q => by omega), fun hd => ?_⟩⟩, fun h43 => ok true d ?_⟩
          · have h := ok false (d - 1) (by unfold fstep; rw [if_neg hL, if_neg h40, hnd, if_neg (by decide), if_neg h43, if_pos ⟨h41, by omega⟩])
            have e1 : nI d + -1 = nI (d - 1) := by
              have := pk_m1 (d - 1)
              rw [show d - 1 + 1 = d by omega] at this
              exact this
            rw [e1, hnd]
            exact h
          · unfold fstep; rw [if_neg hL, if_neg h40, hnd, if_neg (by decide), if_pos h43]
        · have hnd : nd = true := by
            cases nd with
            | true => rfl
            | false => exact absurd rfl hz
          exact bad (by unfold fstep; rw [if_neg hL, if_neg h40, if_pos hnd])
      exact ⟨fun e => absurd (Or.inl e) hL, fun _ => ⟨fun _ => j52 _, fun h97 => ⟨fun _ => j52 _, fun h2 => absurd (Or.inr ⟨by omega, by omega⟩) hL⟩⟩⟩
  · rintro again x y ⟨nd, d, rfl, rfl, hs⟩
    have dle := fs_le hs
    unfold wp_X7_faultAt_L7
    try simp (disch := omega) only [k_0, k_1, k_2, k_3, k_4, k_6, k_7, k_10, k_11, k_12, k_13, k_14, k_16, k_32, k_36, k_40, k_41, k_42, k_43, k_49, k_64, k_80, k_96, k_97, k_100, k_109, k_110, k_127, k_128, k_146, k_147, k_160, k_2304, k_4608, k_13824, nI_add, pk_mul, pk_sub, nI_clamp, q_in, nI_ltI, nI_leI, nI_eq, forall_eq, e_shl, e_bit, e_b0, e_b1, e_bn, e_andn, fa_or, fa_and, e_m1, e_nneg]
    repeat (first | refine And.intro (fun hh => absurd hh (by omega)) (fun _ => ?_) | refine And.intro (fun _ => ?_) (fun hh => absurd hh (by omega)) | refine And.intro (by omega) ?_)
    refine ⟨fun q => ?_, fun q => ?_⟩
    · cases nd with
      | false => exact absurd rfl q
      | true => exact hK _ (Or.inr ⟨true, d, hs, Or.inl ⟨Or.inl rfl, rfl⟩⟩)
    · cases nd with
      | true => exact absurd q (by decide)
      | false =>
        refine ⟨fun q2 => hK _ (Or.inr ⟨false, d, hs, Or.inr ⟨rfl, by omega, rfl⟩⟩), fun q2 => hK _ (Or.inr ⟨false, d, hs, Or.inl ⟨Or.inr (by omega), rfl⟩⟩)⟩
theorem s_isAtom {v : Nat → Int32} {k : Nat} (hv0 : v 0 = nI k) (h1 : 1 ≤ k) (hk : k ≤ 6) {c : Nat} (hc : c < 128) {K : Int32 → Prop} (hK : K (bI (decide (c = 49 ∨ c = 40 ∨ (97 ≤ c ∧ c < 97 + k))))) : wp_X11_isAtomAt v (nI c) K := by
  unfold wp_X11_isAtomAt
  rw [k_49, k_40, k_97, nI_eq (by omega) (by decide), nI_eq (by omega) (by decide)]
  refine ⟨fun h => ?_, fun h => ⟨fun h2 => ?_, fun h2 => ?_⟩⟩
  · rw [decide_eq_true (Or.inl h)] at hK; exact hK
  · rw [decide_eq_true (Or.inr (Or.inl h2))] at hK; exact hK
  · by_cases h3 : 97 ≤ c ∧ c < 97 + k
    · rw [decide_eq_true (Or.inr (Or.inr h3))] at hK
      rw [pk_sub h3.1]
      exact s_isLetter hv0 hk (by omega) (br_f (by decide) hK)
    · rw [decide_eq_false (by rintro (q | q | q); exact h q; exact h2 q; exact h3 q)] at hK
      refine s_isLetterN hv0 h1 hk (fun ⟨j, hj, e⟩ => ?_) (br_t (by decide) hK)
      rcases Nat.lt_or_ge c 97 with q | q
      · have := pk_sneg (a := c) (b := 97) (by decide) q
        rw [e] at this
        exact nI_pos (by omega) this
      · rw [pk_sub q, nI_eq (by omega) (by omega)] at e
        omega
theorem s_faultR {v txt : Nat → Int32} {tx : List Nat} {k : Nat} (hv0 : v 0 = nI k) (h1 : 1 ≤ k) (hk : k ≤ 6) (h80 : tx.length ≤ 80) (h128 : ∀ b ∈ tx, b < 128) (hb : RW txt tx) {K : Int32 → Prop} (hK : ∀ r, FLT k tx r → K r) : wp_X11_fault (nI tx.length) v txt K := by
  unfold wp_X11_fault
  refine lp_X11_fault_L6_of _ _ _ _ _ (fun x y z => ∃ i nd d, i ≤ tx.length ∧ x = nI d ∧ y = bI nd ∧ z = nI i ∧ fs k tx i = some (nd, d)) (fun _ _ z => tx.length - z.toNatClampNeg) ?_ _ _ _ (⟨0, true, 0, Nat.zero_le _, rfl, rfl, rfl, rfl⟩)
  rintro again x y z ⟨i, nd, d, hi, rfl, rfl, rfl, hs⟩ hag
  have dle := fs_le hs
  unfold wp_X11_fault_L6
  try simp (disch := omega) only [k_0, k_1, k_2, k_3, k_4, k_6, k_7, k_10, k_11, k_12, k_13, k_14, k_16, k_32, k_36, k_40, k_41, k_42, k_43, k_49, k_64, k_80, k_96, k_97, k_100, k_109, k_110, k_127, k_128, k_146, k_147, k_160, k_2304, k_4608, k_13824, nI_add, pk_mul, pk_sub, nI_clamp, q_in, nI_ltI, nI_leI, nI_eq, forall_eq, e_shl, e_bit, e_b0, e_b1, e_bn, e_andn, fa_or, fa_and, e_m1, e_nneg]
  refine ⟨fun hge => ?_, fun hlt => ⟨by omega, ?_⟩⟩
  · have e : i = tx.length := by omega
    subst e
    refine ⟨fun q => ?_, fun q => ?_⟩
    · cases nd with
      | false => exact absurd rfl q
      | true => exact hK _ (Or.inr ⟨true, d, hs, Or.inl ⟨Or.inl rfl, rfl⟩⟩)
    · cases nd with
      | true => exact absurd q (by decide)
      | false =>
        refine ⟨fun q2 => hK _ (Or.inr ⟨false, d, hs, Or.inr ⟨rfl, by omega, rfl⟩⟩), fun q2 => hK _ (Or.inr ⟨false, d, hs, Or.inl ⟨Or.inr (by omega), rfl⟩⟩)⟩
  · have hlt2 : i < tx.length := by omega
    have c128 := h128 _ (getD_mem hlt2)
    have ok : ∀ nd' d', fstep k nd d (tx.getD i 0) = some (nd', d') → again (nI d') (bI nd') (nI (i + 1)) := fun nd' d' h => hag _ _ _ ⟨i + 1, nd', d', by omega, rfl, rfl, rfl, by rw [fs_s hs]; exact h⟩ (by rw [nI_clamp (by omega), nI_clamp (by omega)]; omega)
    have bad : fstep k nd d (tx.getD i 0) = none → K (nI i) := fun h => hK _ (Or.inl ⟨i, _, hlt2, hs, by rw [fs_s hs]; exact h, rfl⟩)
    rw [hb i hlt2]
    generalize tx.getD i 0 = c at *
    have j98 : ∀ kz s1 d', nI d + s1 = nI d' → fstep k nd d c = some (decide (c = 40 ∨ c = 43), d') → wp_X11_fault_J98 K again (fun x => K x) kz (nI i) (nI c) (nI d) s1 := by
      intro kz s1 d' e h
      have hok := ok _ _ h
      unfold wp_X11_fault_J98
      rw [e]
      try simp (disch := omega) only [k_0, k_1, k_2, k_3, k_4, k_6, k_7, k_10, k_11, k_12, k_13, k_14, k_16, k_32, k_36, k_40, k_41, k_42, k_43, k_49, k_64, k_80, k_96, k_97, k_100, k_109, k_110, k_127, k_128, k_146, k_147, k_160, k_2304, k_4608, k_13824, nI_add, pk_mul, pk_sub, nI_clamp, q_in, nI_ltI, nI_leI, nI_eq, forall_eq, e_shl, e_bit, e_b0, e_b1, e_bn, e_andn, fa_or, fa_and, e_m1, e_nneg]
      refine ⟨fun h40 => ?_, fun h40 => ⟨fun h43 => ?_, fun h43 => ?_⟩⟩
      · rw [decide_eq_true (Or.inl h40)] at hok; exact hok
      · rw [decide_eq_false (by rintro (q | q); exact h40 q; exact h43 q)] at hok; exact hok
      · rw [decide_eq_true (Or.inr h43)] at hok; exact hok
    have j65 : ∀ kz s, fstep k nd d c = some s → wp_X11_fault_J65 K again (fun x => K x) kz (nI d) (nI i) (nI c) 1 := by
      intro kz s h
      unfold wp_X11_fault_J65
      refine br_f' (by decide) ?_
      try simp (disch := omega) only [k_0, k_1, k_2, k_3, k_4, k_6, k_7, k_10, k_11, k_12, k_13, k_14, k_16, k_32, k_36, k_40, k_41, k_42, k_43, k_49, k_64, k_80, k_96, k_97, k_100, k_109, k_110, k_127, k_128, k_146, k_147, k_160, k_2304, k_4608, k_13824, nI_add, pk_mul, pk_sub, nI_clamp, q_in, nI_ltI, nI_leI, nI_eq, forall_eq, e_shl, e_bit, e_b0, e_b1, e_bn, e_andn, fa_or, fa_and, e_m1, e_nneg]
      have hf := h
      unfold fstep at hf
      by_cases h40 : c = 40
      · refine ⟨fun q => absurd h40 q, fun _ => j98 kz _ (d + 1) (nI_1 d) ?_⟩
        rw [decide_eq_true (Or.inl h40)]
        unfold fstep
        rw [if_neg (by omega), if_pos h40]
      · refine ⟨fun _ => ⟨fun h41 => j98 kz _ d ?_ ?_, fun h41 => j98 kz _ (d - 1) ?_ ?_⟩, fun q => absurd q h40⟩
        · exact nI_add d 0
        · by_cases hL : c = 49 ∨ (97 ≤ c ∧ c < 97 + k)
          · rw [decide_eq_false (by omega)]
            unfold fstep
            rw [if_pos hL]
          · rw [if_neg hL, if_neg h40] at hf
            cases hn : nd with
            | true => rw [if_pos hn] at hf; cases hf
            | false =>
              rw [if_neg (by rw [hn]; decide)] at hf
              unfold fstep
              rw [if_neg hL, if_neg h40, if_neg (by decide)]
              by_cases h43 : c = 43
              · rw [if_pos h43, decide_eq_true (Or.inr h43)]
              · rw [if_neg h43, if_neg (fun q => h41 q.1)] at hf ⊢
                rw [decide_eq_false (by rintro (q | q); exact h40 q; exact h43 q)]
                by_cases h42 : c = 42
                · rw [if_pos h42]
                · rw [if_neg h42] at hf; cases hf
        · have hd : 0 < d := by
            rw [if_neg (by omega), if_neg h40] at hf
            split at hf
            · cases hf
            · split at hf
              · omega
              · split at hf
                · rename_i q; exact q.2
                · split at hf
                  · omega
                  · cases hf
          have := pk_m1 (d - 1)
          rw [show d - 1 + 1 = d by omega] at this
          exact this
        · rw [decide_eq_false (by omega)]
          rw [if_neg (by omega), if_neg h40] at hf
          unfold fstep
          rw [if_neg (by omega), if_neg h40]
          cases hn : nd with
          | true => rw [if_pos hn] at hf; cases hf
          | false =>
            rw [if_neg (by rw [hn]; decide), if_neg (by omega)] at hf
            rw [if_neg (by decide), if_neg (by omega)]
            by_cases hd : 0 < d
            · rw [if_pos ⟨h41, hd⟩]
            · rw [if_neg (fun q => hd q.2), if_neg (by omega)] at hf; cases hf
    have j65n : ∀ kz, fstep k nd d c = none → wp_X11_fault_J65 K again (fun x => K x) kz (nI d) (nI i) (nI c) 0 := by
      intro kz h
      unfold wp_X11_fault_J65
      exact br_t' (by decide) (bad h)
    refine s_isAtom hv0 h1 hk c128 ?_
    by_cases hat : c = 49 ∨ c = 40 ∨ (97 ≤ c ∧ c < 97 + k)
    · rw [decide_eq_true hat]
      refine br_f' (by decide) ?_
      by_cases hL : c = 49 ∨ (97 ≤ c ∧ c < 97 + k)
      · exact j65 _ _ (by unfold fstep; rw [if_pos hL])
      · exact j65 _ (true, d + 1) (by unfold fstep; rw [if_neg hL, if_pos (by omega)])
    · rw [decide_eq_false hat]
      have hL : ¬ (c = 49 ∨ (97 ≤ c ∧ c < 97 + k)) := by omega
      have h40 : ¬ c = 40 := by omega
      refine br_t' (by decide) ?_
      cases hn : nd with
      | true => exact br_f' (by decide) (j65n _ (by unfold fstep; rw [if_neg hL, if_neg h40, if_pos hn]))
      | false =>
        refine br_t' (by decide) ?_
        have nn : ¬ nd = true := by rw [hn]; decide
        try simp (disch := omega) only [k_0, k_1, k_2, k_3, k_4, k_6, k_7, k_10, k_11, k_12, k_13, k_14, k_16, k_32, k_36, k_40, k_41, k_42, k_43, k_49, k_64, k_80, k_96, k_97, k_100, k_109, k_110, k_127, k_128, k_146, k_147, k_160, k_2304, k_4608, k_13824, nI_add, pk_mul, pk_sub, nI_clamp, q_in, nI_ltI, nI_leI, nI_eq, forall_eq, e_shl, e_bit, e_b0, e_b1, e_bn, e_andn, fa_or, fa_and, e_m1, e_nneg]
        refine ⟨fun h43 => j65 _ (true, d) (by unfold fstep; rw [if_neg hL, if_neg h40, if_neg nn, if_pos h43]), fun h43 => ⟨fun h42 => j65 _ (false, d) ?_, fun h42 => ⟨fun h41 => j65n _ ?_, fun h41 => ⟨fun hd => j65n _ ?_, fun hd => j65 _ (false, d - 1) ?_⟩⟩⟩⟩
        · unfold fstep; rw [if_neg hL, if_neg h40, if_neg nn, if_neg h43, if_neg (by omega), if_pos h42]
        · unfold fstep; rw [if_neg hL, if_neg h40, if_neg nn, if_neg h43, if_neg (by omega), if_neg h42]
        · unfold fstep; rw [if_neg hL, if_neg h40, if_neg nn, if_neg h43, if_neg (by omega), if_neg h42]
        · unfold fstep; rw [if_neg hL, if_neg h40, if_neg nn, if_neg h43, if_pos ⟨h41, by omega⟩]
theorem M_faultPosition {cnt sz ln : Int32} {by1 tx1 v : Nat → Int32} {k : Nat} (hc : cnt = nI k) (hv0 : v 0 = nI k) (h1 : 1 ≤ k) (hk : k ≤ 6) (hT : TX sz by1 ln tx1) {K : Int32 → Prop} (hK : ∀ r, (∀ Q : Int32 → Prop, Q r → wp_X11_faultPosition ln v tx1 Q) → K r) : wp_X10_faultPosition cnt sz by1 K := by
  obtain ⟨tx, h80, h128, rfl, rfl, hb, ht⟩ := hT
  subst hc
  unfold wp_X10_faultPosition
  refine s_faultAt hk h80 h128 hb (fun r hr => ?_)
  by_cases e : r = -1
  · refine br_t' e (hK _ (fun Q hQ => ?_))
    unfold wp_X11_faultPosition
    refine s_faultR hv0 h1 hk h80 h128 ht (fun r' hr' => ?_)
    rw [← hr.one hr', e]
    exact br_f (by decide) hQ
  · refine br_f' e (hK _ (fun Q hQ => ?_))
    unfold wp_X11_faultPosition
    refine s_faultR hv0 h1 hk h80 h128 ht (fun r' hr' => ?_)
    rw [← hr.one hr']
    obtain ⟨i, hi, e2⟩ := hr.no e
    refine br_t ?_ hQ
    rw [e2]
    exact nI_pos' (by omega)
/-! slots -/
theorem REL.copyA {c : Int32} {f f' ws ws' : Nat → Int32} {wl wl' : Nat → Nat → Int32} {st ac : Int32} {arr arr' v : Nat → Int32} (h : REL c f ws wl st ac arr v) (h1 : ∀ j, j < 6 → f' j = f j) (h2 : ∀ w, w < 6 → ws' w = ws w ∧ ∀ i, i < 32 → wl' w i = wl w i) (h3 : ∀ j, j < 36 → arr' j = arr j) : REL c f' ws' wl' st ac arr' v := by
  obtain ⟨k, fr, W, n, ar, ac', hS, ⟨a1, a2, a3, a4, a5, a6⟩, hB⟩ := h
  have hn6 := hS.2.2.2.1
  refine ⟨k, fr, W, n, ar, ac', hS, ⟨a1, fun j hj => by rw [h1 j hj]; exact a2 j hj, fun w hw => ?_, a4, a5, fun q x hq hx => by rw [h3 _ (by omega)]; exact a6 q x hq hx⟩, hB⟩
  rw [(h2 w hw).1]
  exact (a3 w hw).congr (h2 w hw).2
theorem REL.copyB {c : Int32} {f ws : Nat → Int32} {wl : Nat → Nat → Int32} {st ac : Int32} {arr v v' : Nat → Int32} (h : REL c f ws wl st ac arr v) (h1 : ∀ j, j < 147 → v' j = v j) : REL c f ws wl st ac arr v' := by
  obtain ⟨k, fr, W, n, ar, ac', hS, hA, ⟨b1, b2, b3, b4, b5, b6, b7⟩⟩ := h
  have hn6 := hS.2.2.2.1
  have h16 : ∀ w, w < 6 → (W w).length ≤ 16 := fun w hw => (hS.2.1 w hw).1
  refine ⟨k, fr, W, n, ar, ac', hS, hA, ⟨by rw [h1 0 (by omega)]; exact b1, fun j hj => by rw [h1 _ (by omega)]; exact b2 j hj, fun w hw => ?_, by rw [h1 _ (by omega)]; exact b4, by rw [h1 _ (by omega)]; exact b5, fun q x hq hx => by rw [h1 _ (by omega)]; exact b6 q x hq hx, fun j hj => ?_⟩⟩
  · obtain ⟨c1, c2, c3⟩ := b3 w hw
    exact ⟨by rw [h1 _ (by omega)]; exact c1, c2, fun i hi => by rw [h1 _ (by omega)]; exact c3 i hi⟩
  · obtain ⟨t, g1, g2⟩ := b7 j hj
    exact ⟨t, g1, by rw [h1 _ (by omega)]; exact g2⟩
theorem s_become6 {c c2 s s2 a a2 : Int32} {f f2 w w2 r r2 : Nat → Int32} {l l2 : Nat → Nat → Int32} {K : Int32 → (Nat → Int32) → (Nat → Int32) → (Nat → Nat → Int32) → Int32 → Int32 → (Nat → Int32) → Prop} (hK : ∀ f' w' l' r', (∀ j, j < 6 → f' j = f2 j) → (∀ x, x < 6 → w' x = w2 x ∧ ∀ i, i < 32 → l' x i = l2 x i) → (∀ j, j < 36 → r' j = r2 j) → K c2 f' w' l' s2 a2 r') : wp_X6_become c f w l s a r c2 f2 w2 l2 s2 a2 r2 K := by
  unfold wp_X6_become
  refine s_become0 (fun f' hf' => ?_)
  refine for_X6_become_L13 _ _ _ (6) (fun i w' l' => ∀ x, x < i → w' x = w2 x ∧ ∀ i, i < 32 → l' x i = l2 x i) ?_ ?_ (0) _ _ _ rfl (Nat.zero_le _) (fun x hx => absurd hx (Nat.not_lt_zero _))
  · intro again i w' l' hi hJ hag
    unfold wp_X6_become_L13
    try simp (disch := omega) only [k_0, k_1, k_2, k_3, k_4, k_6, k_7, k_10, k_11, k_12, k_13, k_14, k_16, k_32, k_36, k_40, k_41, k_42, k_43, k_49, k_64, k_80, k_96, k_97, k_100, k_109, k_110, k_127, k_128, k_146, k_147, k_160, k_2304, k_4608, k_13824, nI_add, pk_mul, pk_sub, nI_clamp, q_in, nI_ltI, nI_leI, nI_eq, forall_eq, e_shl, e_bit, e_b0, e_b1, e_bn, e_andn, fa_or, fa_and, e_m1, e_nneg]
    repeat (first | refine And.intro (fun hh => absurd hh (by omega)) (fun _ => ?_) | refine And.intro (fun _ => ?_) (fun hh => absurd hh (by omega)) | refine And.intro (by omega) ?_)
    refine s_become9 (fun lt' hl' => hag _ _ (fun x hx => ?_))
    by_cases e : x = i
    · subst e; rw [up_s, up_s]; exact ⟨rfl, hl'⟩
    · rw [up_n e, up_n e]; exact hJ x (by omega)
  intro again w' l' hJ
  unfold wp_X6_become_L13
  try simp (disch := omega) only [k_0, k_1, k_2, k_3, k_4, k_6, k_7, k_10, k_11, k_12, k_13, k_14, k_16, k_32, k_36, k_40, k_41, k_42, k_43, k_49, k_64, k_80, k_96, k_97, k_100, k_109, k_110, k_127, k_128, k_146, k_147, k_160, k_2304, k_4608, k_13824, nI_add, pk_mul, pk_sub, nI_clamp, q_in, nI_ltI, nI_leI, nI_eq, forall_eq, e_shl, e_bit, e_b0, e_b1, e_bn, e_andn, fa_or, fa_and, e_m1, e_nneg]
  repeat (first | refine And.intro (fun hh => absurd hh (by omega)) (fun _ => ?_) | refine And.intro (fun _ => ?_) (fun hh => absurd hh (by omega)) | refine And.intro (by omega) ?_)
  unfold wp_X5_become
  refine for_X5_become_L18 _ _ (36) (fun i r' => ∀ j, j < i → r' j = r2 j) ?_ ?_ (0) _ _ rfl (Nat.zero_le _) (fun j hj => absurd hj (Nat.not_lt_zero _))
  · intro again2 i r' hi hJ2 hag
    unfold wp_X5_become_L18
    try simp (disch := omega) only [k_0, k_1, k_2, k_3, k_4, k_6, k_7, k_10, k_11, k_12, k_13, k_14, k_16, k_32, k_36, k_40, k_41, k_42, k_43, k_49, k_64, k_80, k_96, k_97, k_100, k_109, k_110, k_127, k_128, k_146, k_147, k_160, k_2304, k_4608, k_13824, nI_add, pk_mul, pk_sub, nI_clamp, q_in, nI_ltI, nI_leI, nI_eq, forall_eq, e_shl, e_bit, e_b0, e_b1, e_bn, e_andn, fa_or, fa_and, e_m1, e_nneg]
    repeat (first | refine And.intro (fun hh => absurd hh (by omega)) (fun _ => ?_) | refine And.intro (fun _ => ?_) (fun hh => absurd hh (by omega)) | refine And.intro (by omega) ?_)
    refine hag _ (fun j hj => ?_)
    by_cases e : j = i
    · subst e; exact pk_us
    · rw [pk_un e]; exact hJ2 j (by omega)
  · intro again2 r' hJ2
    unfold wp_X5_become_L18
    try simp (disch := omega) only [k_0, k_1, k_2, k_3, k_4, k_6, k_7, k_10, k_11, k_12, k_13, k_14, k_16, k_32, k_36, k_40, k_41, k_42, k_43, k_49, k_64, k_80, k_96, k_97, k_100, k_109, k_110, k_127, k_128, k_146, k_147, k_160, k_2304, k_4608, k_13824, nI_add, pk_mul, pk_sub, nI_clamp, q_in, nI_ltI, nI_leI, nI_eq, forall_eq, e_shl, e_bit, e_b0, e_b1, e_bn, e_andn, fa_or, fa_and, e_m1, e_nneg]
    repeat (first | refine And.intro (fun hh => absurd hh (by omega)) (fun _ => ?_) | refine And.intro (fun _ => ?_) (fun hh => absurd hh (by omega)) | refine And.intro (by omega) ?_)
    exact hK _ _ _ _ hf' hJ hJ2
def SLT (sc : Nat → Int32) (sf sw : Nat → Nat → Int32) (sl : Nat → Nat → Nat → Int32) (ss sa : Nat → Int32) (sr : Nat → Nat → Int32) (sv kp ik : Nat → Int32) : Prop := ∀ s, s < 2 → ∃ b, sv s = bI b ∧ ik s = bI b ∧ (b = true → REL (sc s) (sf s) (sw s) (sl s) (ss s) (sa s) (sr s) (fun j => kp (147 * s + j)))
theorem s_slot {s : Nat} (h : s < 2) {K : Int32 → Prop} (hK : K 1) : wp_X10_isSlot (nI s) K := by
  unfold wp_X10_isSlot
  try simp (disch := omega) only [k_0, k_1, k_2, k_3, k_4, k_6, k_7, k_10, k_11, k_12, k_13, k_14, k_16, k_32, k_36, k_40, k_41, k_42, k_43, k_49, k_64, k_80, k_96, k_97, k_100, k_109, k_110, k_127, k_128, k_146, k_147, k_160, k_2304, k_4608, k_13824, nI_add, pk_mul, pk_sub, nI_clamp, q_in, nI_ltI, nI_leI, nI_eq, forall_eq, e_shl, e_bit, e_b0, e_b1, e_bn, e_andn, fa_or, fa_and, e_m1, e_nneg]
  repeat (first | refine And.intro (fun hh => absurd hh (by omega)) (fun _ => ?_) | refine And.intro (fun _ => ?_) (fun hh => absurd hh (by omega)) | refine And.intro (by omega) ?_)
  exact hK
theorem s_slotN {x : Int32} (h : ¬ ∃ s, s < 2 ∧ x = nI s) {K : Int32 → Prop} (hK : K 0) : wp_X10_isSlot x K := by
  unfold wp_X10_isSlot
  refine ⟨fun _ => hK, fun h0 => ⟨fun _ => hK, fun h1 => ?_⟩⟩
  rcases in_not (by decide) h with q | q
  · exact absurd q h0
  · exact absurd q h1
theorem in_not2 {x : Int32} (h : ¬ ∃ s, s < 2 ∧ x = nI s) : x < 0 ∨ 1 < x := by
  rcases in_not (by decide) h with q | q
  · exact Or.inl q
  · exact Or.inr (gt_of_ge (n := 1) (by decide) q)
theorem M_save {c : Int32} {f ws : Nat → Int32} {wl : Nat → Nat → Int32} {st ac : Int32} {arr v : Nat → Int32} {sc : Nat → Int32} {sf sw : Nat → Nat → Int32} {sl : Nat → Nat → Nat → Int32} {ss sa : Nat → Int32} {sr : Nat → Nat → Int32} {sv kp ik : Nat → Int32} {x1 : Int32} (hR : REL c f ws wl st ac arr v) (hS : SLT sc sf sw sl ss sa sr sv kp ik) {K : Int32 → (Nat → Int32) → (Nat → Nat → Int32) → (Nat → Nat → Int32) → (Nat → Nat → Nat → Int32) → (Nat → Int32) → (Nat → Int32) → (Nat → Nat → Int32) → (Nat → Int32) → Prop} (hK : ∀ r sc' sf' sw' sl' ss' sa' sr' sv', (∀ Q : Int32 → (Nat → Int32) → (Nat → Int32) → Prop, (∀ kp' ik', SLT sc' sf' sw' sl' ss' sa' sr' sv' kp' ik' → Q r kp' ik') → wp_X11_save v kp ik x1 Q) → K r sc' sf' sw' sl' ss' sa' sr' sv') : wp_X10_save c f ws wl st ac arr sc sf sw sl ss sa sr sv x1 K := by
  unfold wp_X10_save
  rcases in_cases x1 (n := 2) (by decide) with ⟨s, hs, rfl⟩ | hx
  · refine s_slot hs ?_
    (first | refine br_t (by decide) ?_ | refine br_f (by decide) ?_ | refine br_t' (by decide) ?_ | refine br_f' (by decide) ?_)
    rw [vb_1]
    try simp (disch := omega) only [k_0, k_1, k_2, k_3, k_4, k_6, k_7, k_10, k_11, k_12, k_13, k_14, k_16, k_32, k_36, k_40, k_41, k_42, k_43, k_49, k_64, k_80, k_96, k_97, k_100, k_109, k_110, k_127, k_128, k_146, k_147, k_160, k_2304, k_4608, k_13824, nI_add, pk_mul, pk_sub, nI_clamp, q_in, nI_ltI, nI_leI, nI_eq, forall_eq, e_shl, e_bit, e_b0, e_b1, e_bn, e_andn, fa_or, fa_and, e_m1, e_nneg]
    refine ⟨hs, s_become6 (fun f' w' l' r' h1 h2 h3 => ⟨hs, ?_⟩)⟩
    have hc : c = v 0 := by
      obtain ⟨k, fr, W, n, ar, ac', -, hA, hB⟩ := hR
      rw [hA.1, hB.1]
    refine hK _ _ _ _ _ _ _ _ _ (fun Q hQ => ?_)
    unfold wp_X11_save
    refine s_in (lo := 0) (hi := 1) (Nat.zero_le _) (by omega) (by decide) ?_
    (first | refine br_t (by decide) ?_ | refine br_f (by decide) ?_ | refine br_t' (by decide) ?_ | refine br_f' (by decide) ?_)
    refine for_X11_save_L13 _ _ _ (147) (fun i kp' => (∀ j, j < i → kp' (147 * s + j) = v j) ∧ ∀ s', s' < 2 → s' ≠ s → ∀ j, j < 147 → kp' (147 * s' + j) = kp (147 * s' + j)) ?_ ?_ (0) _ _ rfl (Nat.zero_le _) (⟨fun j hj => absurd hj (Nat.not_lt_zero _), fun s' _ _ j _ => rfl⟩)
    · rintro again i kp' hi ⟨g1, g2⟩ hag
      unfold wp_X11_save_L13
      try simp (disch := omega) only [k_0, k_1, k_2, k_3, k_4, k_6, k_7, k_10, k_11, k_12, k_13, k_14, k_16, k_32, k_36, k_40, k_41, k_42, k_43, k_49, k_64, k_80, k_96, k_97, k_100, k_109, k_110, k_127, k_128, k_146, k_147, k_160, k_2304, k_4608, k_13824, nI_add, pk_mul, pk_sub, nI_clamp, q_in, nI_ltI, nI_leI, nI_eq, forall_eq, e_shl, e_bit, e_b0, e_b1, e_bn, e_andn, fa_or, fa_and, e_m1, e_nneg]
      repeat (first | refine And.intro (fun hh => absurd hh (by omega)) (fun _ => ?_) | refine And.intro (fun _ => ?_) (fun hh => absurd hh (by omega)) | refine And.intro (by omega) ?_)
      refine hag _ ⟨fun j hj => ?_, fun s' hs' hne j hj => ?_⟩
      · by_cases e : j = i
        · subst e; exact pk_us
        · rw [pk_un (by omega)]; exact g1 j (by omega)
      · rw [pk_un (by omega)]; exact g2 s' hs' hne j hj
    · rintro again kp' ⟨g1, g2⟩
      unfold wp_X11_save_L13
      rw [vb_1]
      try simp (disch := omega) only [k_0, k_1, k_2, k_3, k_4, k_6, k_7, k_10, k_11, k_12, k_13, k_14, k_16, k_32, k_36, k_40, k_41, k_42, k_43, k_49, k_64, k_80, k_96, k_97, k_100, k_109, k_110, k_127, k_128, k_146, k_147, k_160, k_2304, k_4608, k_13824, nI_add, pk_mul, pk_sub, nI_clamp, q_in, nI_ltI, nI_leI, nI_eq, forall_eq, e_shl, e_bit, e_b0, e_b1, e_bn, e_andn, fa_or, fa_and, e_m1, e_nneg]
      repeat (first | refine And.intro (fun hh => absurd hh (by omega)) (fun _ => ?_) | refine And.intro (fun _ => ?_) (fun hh => absurd hh (by omega)) | refine And.intro (by omega) ?_)
      rw [← hc]
      refine hQ _ _ (fun s' hs' => ?_)
      by_cases e : s' = s
      · subst e
        refine ⟨true, pk_us, pk_us, fun _ => ?_⟩
        rw [up_s, up_s, up_s, up_s, up_s, up_s, up_s]
        rw [hc] at hR
        rw [hc]; exact (hR.copyA h1 h2 h3).copyB (fun j hj => g1 j hj)
      · obtain ⟨b, q1, q2, q3⟩ := hS s' hs'
        refine ⟨b, by rw [pk_un e]; exact q1, by rw [pk_un e]; exact q2, fun hb => ?_⟩
        rw [up_n e, up_n e, up_n e, up_n e, up_n e, up_n e, up_n e]
        exact (q3 hb).copyB (fun j hj => g2 s' hs' e j hj)
  · refine s_slotN hx ?_
    (first | refine br_t (by decide) ?_ | refine br_f (by decide) ?_ | refine br_t' (by decide) ?_ | refine br_f' (by decide) ?_)
    refine hK _ _ _ _ _ _ _ _ _ (fun Q hQ => ?_)
    unfold wp_X11_save
    refine s_inN (in_not2 hx) ?_
    (first | refine br_t (by decide) ?_ | refine br_f (by decide) ?_ | refine br_t' (by decide) ?_ | refine br_f' (by decide) ?_)
    exact hQ _ _ hS
theorem M_restore {c : Int32} {f ws : Nat → Int32} {wl : Nat → Nat → Int32} {st ac : Int32} {arr v : Nat → Int32} {sc : Nat → Int32} {sf sw : Nat → Nat → Int32} {sl : Nat → Nat → Nat → Int32} {ss sa : Nat → Int32} {sr : Nat → Nat → Int32} {sv kp ik : Nat → Int32} {x1 : Int32} (hR : REL c f ws wl st ac arr v) (hS : SLT sc sf sw sl ss sa sr sv kp ik) {K : Int32 → Int32 → (Nat → Int32) → (Nat → Int32) → (Nat → Nat → Int32) → Int32 → Int32 → (Nat → Int32) → Prop} (hK : ∀ r c' f' ws' wl' st' ac' arr', (∀ Q : Int32 → (Nat → Int32) → Prop, (∀ v', REL c' f' ws' wl' st' ac' arr' v' → Q r v') → wp_X11_restore v kp ik x1 Q) → K r c' f' ws' wl' st' ac' arr') : wp_X10_restore c f ws wl st ac arr sc sf sw sl ss sa sr sv x1 K := by
  unfold wp_X10_restore
  rcases in_cases x1 (n := 2) (by decide) with ⟨s, hs, rfl⟩ | hx
  · obtain ⟨b, q1, q2, q3⟩ := hS s hs
    refine s_slot hs ?_
    (first | refine br_t (by decide) ?_ | refine br_f (by decide) ?_ | refine br_t' (by decide) ?_ | refine br_f' (by decide) ?_)
    try simp (disch := omega) only [k_0, k_1, k_2, k_3, k_4, k_6, k_7, k_10, k_11, k_12, k_13, k_14, k_16, k_32, k_36, k_40, k_41, k_42, k_43, k_49, k_64, k_80, k_96, k_97, k_100, k_109, k_110, k_127, k_128, k_146, k_147, k_160, k_2304, k_4608, k_13824, nI_add, pk_mul, pk_sub, nI_clamp, q_in, nI_ltI, nI_leI, nI_eq, forall_eq, e_shl, e_bit, e_b0, e_b1, e_bn, e_andn, fa_or, fa_and, e_m1, e_nneg]
    rw [q1]
    refine ⟨hs, ?_⟩
    cases b with
    | true =>
      refine br_f' (by decide) ⟨hs, s_become6 (fun f' w' l' r' h1 h2 h3 => ?_)⟩
      have hr := q3 rfl
      refine hK _ _ _ _ _ _ _ _ (fun Q hQ => ?_)
      unfold wp_X11_restore
      refine s_in (lo := 0) (hi := 1) (Nat.zero_le _) (by omega) (by decide) ?_
      (first | refine br_t (by decide) ?_ | refine br_f (by decide) ?_ | refine br_t' (by decide) ?_ | refine br_f' (by decide) ?_)
      try simp (disch := omega) only [k_0, k_1, k_2, k_3, k_4, k_6, k_7, k_10, k_11, k_12, k_13, k_14, k_16, k_32, k_36, k_40, k_41, k_42, k_43, k_49, k_64, k_80, k_96, k_97, k_100, k_109, k_110, k_127, k_128, k_146, k_147, k_160, k_2304, k_4608, k_13824, nI_add, pk_mul, pk_sub, nI_clamp, q_in, nI_ltI, nI_leI, nI_eq, forall_eq, e_shl, e_bit, e_b0, e_b1, e_bn, e_andn, fa_or, fa_and, e_m1, e_nneg]
      rw [q2]
      refine ⟨hs, br_f' (by decide) ?_⟩
      refine for_X11_restore_L25 _ _ _ (147) (fun i v' => ∀ j, j < i → v' j = kp (147 * s + j)) ?_ ?_ (0) _ _ rfl (Nat.zero_le _) (fun j hj => absurd hj (Nat.not_lt_zero _))
      · intro again i v' hi g1 hag
        unfold wp_X11_restore_L25
        try simp (disch := omega) only [k_0, k_1, k_2, k_3, k_4, k_6, k_7, k_10, k_11, k_12, k_13, k_14, k_16, k_32, k_36, k_40, k_41, k_42, k_43, k_49, k_64, k_80, k_96, k_97, k_100, k_109, k_110, k_127, k_128, k_146, k_147, k_160, k_2304, k_4608, k_13824, nI_add, pk_mul, pk_sub, nI_clamp, q_in, nI_ltI, nI_leI, nI_eq, forall_eq, e_shl, e_bit, e_b0, e_b1, e_bn, e_andn, fa_or, fa_and, e_m1, e_nneg]
        repeat (first | refine And.intro (fun hh => absurd hh (by omega)) (fun _ => ?_) | refine And.intro (fun _ => ?_) (fun hh => absurd hh (by omega)) | refine And.intro (by omega) ?_)
        refine hag _ (fun j hj => ?_)
        by_cases e : j = i
        · subst e; exact pk_us
        · rw [pk_un e]; exact g1 j (by omega)
      · intro again v' g1
        unfold wp_X11_restore_L25
        try simp (disch := omega) only [k_0, k_1, k_2, k_3, k_4, k_6, k_7, k_10, k_11, k_12, k_13, k_14, k_16, k_32, k_36, k_40, k_41, k_42, k_43, k_49, k_64, k_80, k_96, k_97, k_100, k_109, k_110, k_127, k_128, k_146, k_147, k_160, k_2304, k_4608, k_13824, nI_add, pk_mul, pk_sub, nI_clamp, q_in, nI_ltI, nI_leI, nI_eq, forall_eq, e_shl, e_bit, e_b0, e_b1, e_bn, e_andn, fa_or, fa_and, e_m1, e_nneg]
        repeat (first | refine And.intro (fun hh => absurd hh (by omega)) (fun _ => ?_) | refine And.intro (fun _ => ?_) (fun hh => absurd hh (by omega)) | refine And.intro (by omega) ?_)
        have hr2 := (hr.copyA h1 h2 h3).copyB g1
        have hc : sc s = v' 0 := by
          obtain ⟨k, fr, W, n, ar, ac', -, hA, hB⟩ := hr2
          rw [hA.1, hB.1]
        have := hQ v' hr2
        rw [hc] at this
        exact this
    | false =>
      refine br_t' (by decide) (hK _ _ _ _ _ _ _ _ (fun Q hQ => ?_))
      unfold wp_X11_restore
      refine s_in (lo := 0) (hi := 1) (Nat.zero_le _) (by omega) (by decide) ?_
      (first | refine br_t (by decide) ?_ | refine br_f (by decide) ?_ | refine br_t' (by decide) ?_ | refine br_f' (by decide) ?_)
      try simp (disch := omega) only [k_0, k_1, k_2, k_3, k_4, k_6, k_7, k_10, k_11, k_12, k_13, k_14, k_16, k_32, k_36, k_40, k_41, k_42, k_43, k_49, k_64, k_80, k_96, k_97, k_100, k_109, k_110, k_127, k_128, k_146, k_147, k_160, k_2304, k_4608, k_13824, nI_add, pk_mul, pk_sub, nI_clamp, q_in, nI_ltI, nI_leI, nI_eq, forall_eq, e_shl, e_bit, e_b0, e_b1, e_bn, e_andn, fa_or, fa_and, e_m1, e_nneg]
      rw [q2]
      exact ⟨hs, br_t' (by decide) (hQ _ hR)⟩
  · refine s_slotN hx ?_
    (first | refine br_t (by decide) ?_ | refine br_f (by decide) ?_ | refine br_t' (by decide) ?_ | refine br_f' (by decide) ?_)
    refine hK _ _ _ _ _ _ _ _ (fun Q hQ => ?_)
    unfold wp_X11_restore
    refine s_inN (in_not2 hx) ?_
    (first | refine br_t (by decide) ?_ | refine br_f (by decide) ?_ | refine br_t' (by decide) ?_ | refine br_f' (by decide) ?_)
    exact hQ _ hR
