/-! the reference's postfix form -/
def WTR (wt : Nat → Int32) : List Nat → Prop
  | [] => True
  | a :: w => wt w.length = nI a ∧ WTR wt w
theorem WTR_cong {wt wt' : Nat → Int32} : ∀ {w : List Nat}, (∀ j, j < w.length → wt' j = wt j) → WTR wt w → WTR wt' w
  | [], _, _ => trivial
  | a :: w, h, hw => ⟨by rw [h w.length (by simp)]; exact hw.1, WTR_cong (fun j hj => h j (by simp; omega)) hw.2⟩
theorem WTR.push {wt : Nat → Int32} {w : List Nat} (h : WTR wt w) (a : Nat) : WTR (upd wt w.length (nI a)) (a :: w) := ⟨pk_us, WTR_cong (fun j hj => pk_un (by omega)) h⟩
theorem WTR.drop {wt : Nat → Int32} : ∀ {a b : List Nat}, WTR wt (a ++ b) → WTR wt b
  | [], b, h => h
  | x :: a, b, h => WTR.drop (a := a) h.2
theorem s_puts {fm : Nat → Int32} {F : List Nat} (h : RW fm F) (hl : F.length < 200) {x : Nat} {K : Int32 → (Nat → Int32) → Prop} (hK : ∀ fm', RW fm' (F ++ [x]) → K (nI (F ++ [x]).length) fm') : wp_X11_puts (nI F.length) fm (nI x) K := by
  unfold wp_X11_puts
  try simp (disch := omega) only [k_0, k_1, k_2, k_3, k_4, k_6, k_7, k_10, k_11, k_12, k_13, k_14, k_16, k_32, k_36, k_40, k_41, k_42, k_43, k_49, k_64, k_80, k_96, k_97, k_100, k_109, k_110, k_127, k_128, k_146, k_147, k_160, k_2304, k_4608, k_13824, nI_add, pk_mul, pk_sub, nI_clamp, q_in, nI_ltI, nI_leI, nI_eq, forall_eq, e_shl, e_bit, e_b0, e_b1, e_bn, e_andn, fa_or, fa_and, e_m1, e_nneg]
  repeat (first | refine And.intro (fun hh => absurd hh (by omega)) (fun _ => ?_) | refine And.intro (fun _ => ?_) (fun hh => absurd hh (by omega)) | refine And.intro (by omega) ?_)
  have e : F.length + 1 = (F ++ [x]).length := by simp
  rw [e]
  exact hK _ (h.push x)
theorem s_putsT {fm wt : Nat → Int32} {F a b : List Nat} {sg : Nat} (hF : RW fm F) (hW : WTR wt (a ++ b)) (ha : ∀ x ∈ a, x ≤ sg) (hb : ∀ y b', b = y :: b' → sg < y) (h14 : ∀ x ∈ a ++ b, x ≤ 14) (hsg : sg ≤ 14) (hl : F.length + a.length ≤ 200) (hwl : (a ++ b).length ≤ 200) {K : Int32 → Int32 → (Nat → Int32) → Prop} (hK : ∀ fm', RW fm' (F ++ a) → K (nI (F ++ a).length) (nI b.length) fm') : wp_X11_putsTighter (nI F.length) (nI (a ++ b).length) fm wt (nI sg) K := by
  unfold wp_X11_putsTighter
  refine lp_X11_putsTighter_L0_of _ _ _ (fun f w fm => ∃ a1 a2, a = a1 ++ a2 ∧ f = nI (F ++ a1).length ∧ w = nI (a2 ++ b).length ∧ RW fm (F ++ a1)) (fun _ w _ => w.toNatClampNeg) ?_ _ _ _ (⟨[], a, rfl, by simp, rfl, by simpa using hF⟩)
  rintro again f w fm ⟨a1, a2, rfl, rfl, rfl, hR⟩ hag
  have hl2 : (F ++ a1).length = F.length + a1.length := by simp
  have hl3 : (a2 ++ b).length = a2.length + b.length := by simp
  have hl4 : (a1 ++ a2).length = a1.length + a2.length := by simp
  have hl5 : (a1 ++ a2 ++ b).length = a1.length + a2.length + b.length := by rw [List.length_append, List.length_append]
  have hW2 : WTR wt (a2 ++ b) := by
    rw [List.append_assoc] at hW
    exact hW.drop
  unfold wp_X11_putsTighter_L0
  cases a2 with
  | nil =>
    cases b with
    | nil =>
      rw [List.append_nil] at hK
      exact br_t (by decide) (hK _ hR)
    | cons y b' =>
      have hy := hb y b' rfl
      have hy14 := h14 y (by simp)
      rw [List.append_nil] at hK
      have e : nI ([] ++ y :: b').length = nI (b'.length + 1) := rfl
      obtain ⟨hw1, -⟩ := hW2
      rw [e]
      have hl6 : (y :: b').length = b'.length + 1 := rfl
      try simp (disch := omega) only [k_0, k_1, k_2, k_3, k_4, k_6, k_7, k_10, k_11, k_12, k_13, k_14, k_16, k_32, k_36, k_40, k_41, k_42, k_43, k_49, k_64, k_80, k_96, k_97, k_100, k_109, k_110, k_127, k_128, k_146, k_147, k_160, k_2304, k_4608, k_13824, nI_add, pk_mul, pk_sub, nI_clamp, q_in, nI_ltI, nI_leI, nI_eq, forall_eq, e_shl, e_bit, e_b0, e_b1, e_bn, e_andn, fa_or, fa_and, e_m1, e_nneg]
      repeat (first | refine And.intro (fun hh => absurd hh (by omega)) (fun _ => ?_) | refine And.intro (fun _ => ?_) (fun hh => absurd hh (by omega)) | refine And.intro (by omega) ?_)
      rw [show b'.length + 1 - 1 = b'.length by omega, hw1]
      try simp (disch := omega) only [k_0, k_1, k_2, k_3, k_4, k_6, k_7, k_10, k_11, k_12, k_13, k_14, k_16, k_32, k_36, k_40, k_41, k_42, k_43, k_49, k_64, k_80, k_96, k_97, k_100, k_109, k_110, k_127, k_128, k_146, k_147, k_160, k_2304, k_4608, k_13824, nI_add, pk_mul, pk_sub, nI_clamp, q_in, nI_ltI, nI_leI, nI_eq, forall_eq, e_shl, e_bit, e_b0, e_b1, e_bn, e_andn, fa_or, fa_and, e_m1, e_nneg]
      repeat (first | refine And.intro (fun hh => absurd hh (by omega)) (fun _ => ?_) | refine And.intro (fun _ => ?_) (fun hh => absurd hh (by omega)) | refine And.intro (by omega) ?_)
      exact hK _ hR
  | cons x a2 =>
    have hx := ha x (by simp)
    have hx14 := h14 x (by simp)
    obtain ⟨hw1, hw2⟩ := hW2
    have e : nI (x :: a2 ++ b).length = nI ((a2 ++ b).length + 1) := rfl
    have hl6 : (x :: a2 ++ b).length = (a2 ++ b).length + 1 := rfl
    have hl7 : (a2 ++ b).length = a2.length + b.length := by simp
    have hl8 : (x :: a2).length = a2.length + 1 := rfl
    rw [e]
    try simp (disch := omega) only [k_0, k_1, k_2, k_3, k_4, k_6, k_7, k_10, k_11, k_12, k_13, k_14, k_16, k_32, k_36, k_40, k_41, k_42, k_43, k_49, k_64, k_80, k_96, k_97, k_100, k_109, k_110, k_127, k_128, k_146, k_147, k_160, k_2304, k_4608, k_13824, nI_add, pk_mul, pk_sub, nI_clamp, q_in, nI_ltI, nI_leI, nI_eq, forall_eq, e_shl, e_bit, e_b0, e_b1, e_bn, e_andn, fa_or, fa_and, e_m1, e_nneg]
    repeat (first | refine And.intro (fun hh => absurd hh (by omega)) (fun _ => ?_) | refine And.intro (fun _ => ?_) (fun hh => absurd hh (by omega)) | refine And.intro (by omega) ?_)
    rw [show (a2 ++ b).length + 1 - 1 = (a2 ++ b).length by omega, show wt (a2 ++ b).length = nI x from hw1]
    try simp (disch := omega) only [k_0, k_1, k_2, k_3, k_4, k_6, k_7, k_10, k_11, k_12, k_13, k_14, k_16, k_32, k_36, k_40, k_41, k_42, k_43, k_49, k_64, k_80, k_96, k_97, k_100, k_109, k_110, k_127, k_128, k_146, k_147, k_160, k_2304, k_4608, k_13824, nI_add, pk_mul, pk_sub, nI_clamp, q_in, nI_ltI, nI_leI, nI_eq, forall_eq, e_shl, e_bit, e_b0, e_b1, e_bn, e_andn, fa_or, fa_and, e_m1, e_nneg]
    repeat (first | refine And.intro (fun hh => absurd hh (by omega)) (fun _ => ?_) | refine And.intro (fun _ => ?_) (fun hh => absurd hh (by omega)) | refine And.intro (by omega) ?_)
    refine s_puts hR (by omega) (fun fm' hfm' => ?_)
    rw [List.append_assoc] at hfm' ⊢
    refine hag _ _ _ ⟨a1 ++ [x], a2, by simp, rfl, rfl, hfm'⟩ ?_
    rw [nI_clamp (by omega), nI_clamp (by omega)]
    omega
theorem enc_14 : ∀ (ls : List LV), ∀ x ∈ enc ls, x ≤ 14
  | [], x, h => absurd h List.not_mem_nil
  | l :: ls, x, h => by
    rw [enc] at h
    rcases List.mem_append.mp h with q | q
    · rcases List.mem_append.mp q with q | q
      · rcases List.mem_append.mp q with q | q
        · split at q
          · rw [List.mem_singleton.mp q]; decide
          · exact absurd q List.not_mem_nil
        · split at q
          · rw [List.mem_singleton.mp q]; decide
          · exact absurd q List.not_mem_nil
      · split at q
        · exact absurd q List.not_mem_nil
        · rw [List.mem_singleton.mp q]; decide
    · exact enc_14 ls x q
/-- the levels around the one that is open -/
def encR (ls : List LV) : List Nat := (if ls.isEmpty then [] else [14]) ++ enc ls
theorem enc_eq (l : LV) (ls : List LV) : enc (l :: ls) = (if l.2.1.isSome then [11] else []) ++ ((if l.1.isSome then [12] else []) ++ encR ls) := by
  rw [enc, encR, List.append_assoc, List.append_assoc]
theorem encR_head (ls : List LV) (sg : Nat) (h : sg < 14) : ∀ y b', encR ls = y :: b' → sg < y := by
  intro y b' e
  cases ls with
  | nil => cases e
  | cons m ms =>
    unfold encR at e
    simp at e
    omega
theorem clP_map {ns : List ND} {l : LV} (h : l.2.2 ≠ none) : (clP ns l).1.map Prod.fst = ns.map Prod.fst ++ (if l.2.1.isSome then [11] else []) := by
  show (jn 11 ns l.2.1 l.2.2).1.map Prod.fst = _
  cases h1 : l.2.1 with
  | none => simp [jn]
  | some a =>
    cases h2 : l.2.2 with
    | none => exact absurd h2 h
    | some b => simp [jn]
theorem clS_map {ns : List ND} {l : LV} (h : l.2.2 ≠ none) : (clS ns l).1.map Prod.fst = ns.map Prod.fst ++ ((if l.2.1.isSome then [11] else []) ++ (if l.1.isSome then [12] else [])) := by
  have h1 := clP_map (ns := ns) h
  have h2 := clP_some (ns := ns) h
  show (jn 12 (clP ns l).1 l.1 (clP ns l).2.2.1).1.map Prod.fst = _
  rw [← List.append_assoc, ← h1]
  cases h3 : l.1 with
  | none => simp [jn]
  | some a =>
    cases h4 : (clP ns l).2.2.1 with
    | none => exact absurd h4 h2
    | some b => simp [jn]
theorem isSome_ne {a : Option Nat} (h : a ≠ none) : a.isSome = true := by
  cases a with
  | none => exact absurd rfl h
  | some x => rfl
theorem s_findForm {v txt fm wt : Nat → Int32} {fl wl : Int32} {tx : List Nat} {k : Nat} (hv0 : v 0 = nI k) (hk1 : 1 ≤ k) (hk : k ≤ 6) (h80 : tx.length ≤ 80) (h128 : ∀ b ∈ tx, b < 128) (hb : RW txt tx) (hok : OKT k tx) {K : Int32 → Int32 → (Nat → Int32) → (Nat → Int32) → Prop} (hK : ∀ w fm' wt', RW fm' ((nodes tx).map Prod.fst) → K (nI (nodes tx).length) w fm' wt') : wp_X11_findForm (nI tx.length) fl wl v txt fm wt K := by
  have mono : ∀ i, i ≤ tx.length → ∃ nd d, fs k tx i = some (nd, d) := by
    intro i hi
    cases hf : fs k tx i with
    | none =>
      have := fs_none hf (tx.length - i)
      rw [show i + (tx.length - i) = tx.length by omega] at this
      unfold OKT at hok
      rw [this] at hok
      cases hok
    | some s => exact ⟨s.1, s.2, rfl⟩
  unfold wp_X11_findForm
  refine lp_X11_findForm_L14_of _ _ _ _ (fun x y f w fm wt => ∃ i ns l ls nd d, i ≤ tx.length ∧ y = nI i ∧ x = bI (!nd) ∧ fs k tx i = some (nd, d) ∧ prs tx i = (ns, l :: ls) ∧ f = nI (ns.map Prod.fst).length ∧ w = nI (enc (l :: ls)).length ∧ RW fm (ns.map Prod.fst) ∧ WTR wt (enc (l :: ls))) (fun _ y _ _ _ _ => tx.length - y.toNatClampNeg) ?_ _ _ _ _ _ _ (⟨0, [], (none, none, none), [], true, 0, Nat.zero_le _, rfl, rfl, rfl, rfl, rfl, rfl, fun i hi => absurd hi (Nat.not_lt_zero _), trivial⟩)
  rintro again x y f w fm wt ⟨i, ns, l, ls, nd, d, hi, rfl, rfl, hs, e1, rfl, rfl, hR, hWt⟩ hag
  obtain ⟨ns2, l2, ls2, e2, hP⟩ := PI_all hk hs
  rw [e1] at e2
  cases e2
  have hP0 := hP
  obtain ⟨p1, p2, p3, p4, p5, p6, p7, p8, p9⟩ := hP
  have ml : (ns.map Prod.fst).length = ns.length := by simp
  have el := enc_cons l ls
  have ee := enc_eq l ls
  have vl := vals_len l ls
  unfold wp_X11_findForm_L14
  try simp (disch := omega) only [k_0, k_1, k_2, k_3, k_4, k_6, k_7, k_10, k_11, k_12, k_13, k_14, k_16, k_32, k_36, k_40, k_41, k_42, k_43, k_49, k_64, k_80, k_96, k_97, k_100, k_109, k_110, k_127, k_128, k_146, k_147, k_160, k_2304, k_4608, k_13824, nI_add, pk_mul, pk_sub, nI_clamp, q_in, nI_ltI, nI_leI, nI_eq, forall_eq, e_shl, e_bit, e_b0, e_b1, e_bn, e_andn, fa_or, fa_and, e_m1, e_nneg]
  refine ⟨fun hge => ?_, fun hlt => ⟨by omega, ?_⟩⟩
  · have ei : i = tx.length := by omega
    subst ei
    obtain ⟨ns2, l2, e2, hP2, en, et, hst, hsg, hlen, hroom⟩ := nodes_ok hk h80 hok
    rw [e1] at e2
    cases e2
    have hit : l.2.2 ≠ none := fun q => by have := hP2.2.1.mpr q; cases this
    have cm := clS_map (ns := ns) hit
    have er : encR ([] : List LV) = [] := rfl
    rw [er, List.append_nil] at ee
    have ee2 : enc [l] = ((if l.2.1.isSome then [11] else []) ++ (if l.1.isSome then [12] else [])) ++ [] := by rw [ee, List.append_nil]
    rw [ee2] at hWt ⊢
    have aa : ∀ z ∈ (if l.2.1.isSome then [11] else []) ++ (if l.1.isSome then [12] else []), z ≤ 12 := by
      intro z hz
      rcases List.mem_append.mp hz with q | q
      · split at q
        · rw [List.mem_singleton.mp q]; decide
        · exact absurd q List.not_mem_nil
      · split at q
        · rw [List.mem_singleton.mp q]; decide
        · exact absurd q List.not_mem_nil
    have al : ((if l.2.1.isSome then [11] else []) ++ (if l.1.isSome then [12] else [])).length ≤ 2 := by
      cases l.2.1.isSome <;> cases l.1.isSome <;> simp
    refine s_putsT hR hWt aa (fun y b' e => by cases e) (fun z hz => by rw [List.append_nil] at hz; have := aa z hz; omega) (by decide) (by omega) (by rw [List.append_nil]; omega) (fun fm' hfm' => ?_)
    rw [← cm, ← en] at hfm' ⊢
    have e9 : ((nodes tx).map Prod.fst).length = (nodes tx).length := by simp
    rw [e9]
    exact hK _ _ _ hfm'
  · have hlt2 : i < tx.length := by omega
    have c128 := h128 _ (getD_mem hlt2)
    obtain ⟨nd', d', hs'⟩ := mono (i + 1) (by omega)
    have hs2 := hs'
    rw [fs_s hs] at hs2
    rw [hb i hlt2]
    have next : ∀ ns' l' ls' fl w fm wt kx, pstep (tx.getD i 0) ns l ls = (ns', l' :: ls') → fl = nI (ns'.map Prod.fst).length → w = nI (enc (l' :: ls')).length → RW fm (ns'.map Prod.fst) → WTR wt (enc (l' :: ls')) → wp_X11_findForm_J144 K again kx fl w fm wt (nI i) (nI (tx.getD i 0)) := by
      intro ns' l' ls' fl w fm wt kx hps hfl hw hfm hwt
      have go : ∀ b, b = !nd' → again (bI b) (nI (i + 1)) fl w fm wt := fun b hbn => hag _ _ _ _ _ _ ⟨i + 1, ns', l', ls', nd', d', by omega, rfl, by rw [hbn], hs', by rw [prs, e1]; exact hps, hfl, hw, hfm, hwt⟩ (by rw [nI_clamp (by omega), nI_clamp (by omega)]; omega)
      generalize tx.getD i 0 = c at *
      unfold wp_X11_findForm_J144
      try simp (disch := omega) only [k_0, k_1, k_2, k_3, k_4, k_6, k_7, k_10, k_11, k_12, k_13, k_14, k_16, k_32, k_36, k_40, k_41, k_42, k_43, k_49, k_64, k_80, k_96, k_97, k_100, k_109, k_110, k_127, k_128, k_146, k_147, k_160, k_2304, k_4608, k_13824, nI_add, pk_mul, pk_sub, nI_clamp, q_in, nI_ltI, nI_leI, nI_eq, forall_eq, e_shl, e_bit, e_b0, e_b1, e_bn, e_andn, fa_or, fa_and, e_m1, e_nneg]
      unfold fstep at hs2
      refine ⟨fun h40 => go false ?_, fun h40 => ⟨fun h43 => go false ?_, fun h43 => go true ?_⟩⟩
      · rw [if_neg (by omega), if_pos h40] at hs2
        cases hs2; rfl
      · rw [if_neg (by omega), if_neg h40] at hs2
        split at hs2
        · cases hs2
        · try rw [if_pos h43] at hs2
          cases hs2; rfl
      · split at hs2
        · cases hs2; rfl
        · try rw [if_neg h40] at hs2
          split at hs2
          · cases hs2
          · try rw [if_neg h43] at hs2
            split at hs2
            · cases hs2; rfl
            · split at hs2
              · cases hs2; rfl
              · cases hs2
    have cob := clP_len ns l
    have o1 := opt_len (a := (clP ns l).2.2.1)
    have o2 := opt_len (a := l.2.1)
    have o3 := opt_len (a := l.2.2)
    have o4 := opt_len (a := l.1)
    have ecP := enc_cons (clP ns l).2 ls
    have e4 : (clP ns l).2.1 = l.1 := rfl
    rw [e4] at ecP
    have cml : ((clP ns l).1.map Prod.fst).length = (clP ns l).1.length := by simp
    -- an atom: what stands before it is closed
    have pre : ∀ kx, (tx.getD i 0 = 49 ∨ tx.getD i 0 = 40 ∨ (97 ≤ tx.getD i 0 ∧ tx.getD i 0 < 97 + k)) → (∀ fm wt, RW fm ((clP ns l).1.map Prod.fst) → WTR wt (enc ((clP ns l).2 :: ls)) → wp_X11_findForm_J53 K again kx (nI ((clP ns l).1.map Prod.fst).length) (nI (enc ((clP ns l).2 :: ls)).length) fm wt (nI i) (nI (tx.getD i 0))) → wp_X11_isAtomAt v (nI (tx.getD i 0)) (fun r_2 => ((r_2 = nI 0 → wp_X11_findForm_J53 K again kx (nI (ns.map Prod.fst).length) (nI (enc (l :: ls)).length) fm wt (nI i) (nI (tx.getD i 0))) ∧ (¬ r_2 = nI 0 → ((bI (!nd) = nI 0 → wp_X11_findForm_J53 K again kx (nI (ns.map Prod.fst).length) (nI (enc (l :: ls)).length) fm wt (nI i) (nI (tx.getD i 0))) ∧ (¬ bI (!nd) = nI 0 → wp_X11_putsTighter (nI (ns.map Prod.fst).length) (nI (enc (l :: ls)).length) fm wt (nI 11) (fun t_formLength_22 t_waits_23 t_form_24 => wp_X11_waitsFor t_waits_23 wt (nI 11) (fun t_waits_25 t_waiting_26 => wp_X11_findForm_J53 K again kx t_formLength_22 t_waits_25 t_form_24 t_waiting_26 (nI i) (nI (tx.getD i 0))))))))) := by
      intro kx hat hJ
      refine s_isAtom hv0 hk1 hk c128 ?_
      rw [decide_eq_true hat]
      refine br_f (by decide) ?_
      cases hn : nd with
      | true =>
        have h3 := p2.mp hn
        have h4 := p3 h3
        have ecl := clP_none (ns := ns) h3 h4
        refine br_t (by decide) ?_
        rw [ecl] at hJ
        have e5 : enc ((l.1, none, none) :: ls) = enc (l :: ls) := by rw [enc, enc, h4]
        have e6 : enc ((ns, ((l.1, none, none) : LV)).2 :: ls) = enc (l :: ls) := e5
        rw [e6] at hJ
        exact hJ _ _ hR hWt
      | false =>
        have hit : l.2.2 ≠ none := fun q => by have := p2.mpr q; rw [hn] at this; cases this
        have o3' := opt_some hit
        refine br_f (by decide) ?_
        rw [ee] at hWt ⊢
        have a1 : ∀ z ∈ (if l.2.1.isSome then [11] else []), z ≤ 11 := by
          intro z hz
          split at hz
          · rw [List.mem_singleton.mp hz]; decide
          · exact absurd hz List.not_mem_nil
        have a2 : (if l.2.1.isSome then [11] else []).length ≤ 1 := by cases l.2.1.isSome <;> simp
        have bh : ∀ y b', (if l.1.isSome then [12] else []) ++ encR ls = y :: b' → 11 < y := by
          intro y b' e
          cases h1 : l.1.isSome with
          | true => rw [h1] at e; simp at e; omega
          | false => rw [h1] at e; exact encR_head ls 11 (by decide) y b' e
        have tot : ((if l.2.1.isSome then [11] else []) ++ ((if l.1.isSome then [12] else []) ++ encR ls)).length ≤ 200 := by rw [← ee]; omega
        refine s_putsT hR hWt a1 bh (fun z hz => enc_14 (l :: ls) z (by rw [ee]; exact hz)) (by decide) (by omega) tot (fun fm' hfm' => ?_)
        rw [← clP_map hit] at hfm' ⊢
        have hps := clP_some (ns := ns) hit
        have e7 : enc ((clP ns l).2 :: ls) = 11 :: ((if l.1.isSome then [12] else []) ++ encR ls) := by
          rw [enc_eq, e4, isSome_ne hps]
          rfl
        have len7 : (enc ((clP ns l).2 :: ls)).length = ((if l.1.isSome then [12] else []) ++ encR ls).length + 1 := by rw [e7]; rfl
        rw [e7] at hJ
        unfold wp_X11_waitsFor
        have wb : ((if l.1.isSome then [12] else []) ++ encR ls).length ≤ 199 := by
          have h1 := opt_some hps
          omega
        try simp (disch := omega) only [k_0, k_1, k_2, k_3, k_4, k_6, k_7, k_10, k_11, k_12, k_13, k_14, k_16, k_32, k_36, k_40, k_41, k_42, k_43, k_49, k_64, k_80, k_96, k_97, k_100, k_109, k_110, k_127, k_128, k_146, k_147, k_160, k_2304, k_4608, k_13824, nI_add, pk_mul, pk_sub, nI_clamp, q_in, nI_ltI, nI_leI, nI_eq, forall_eq, e_shl, e_bit, e_b0, e_b1, e_bn, e_andn, fa_or, fa_and, e_m1, e_nneg]
        repeat (first | refine And.intro (fun hh => absurd hh (by omega)) (fun _ => ?_) | refine And.intro (fun _ => ?_) (fun hh => absurd hh (by omega)) | refine And.intro (by omega) ?_)
        exact hJ _ _ hfm' (hWt.drop.push 11)
    have e9 : ∀ z, enc ((l.1, (clP ns l).2.2.1, z) :: ls) = enc ((clP ns l).2 :: ls) := fun z => by rw [enc, enc]; rfl
    have hs3 := hs2
    unfold fstep at hs3
    by_cases hat : tx.getD i 0 = 49 ∨ tx.getD i 0 = 40 ∨ (97 ≤ tx.getD i 0 ∧ tx.getD i 0 < 97 + k)
    · refine pre _ hat (fun fm' wt' hfm' hwt' => ?_)
      have wl1 : (enc ((clP ns l).2 :: ls)).length ≤ 190 := by omega
      have fl1 : ((clP ns l).1.map Prod.fst).length ≤ 190 := by omega
      unfold wp_X11_findForm_J53
      try simp (disch := omega) only [k_0, k_1, k_2, k_3, k_4, k_6, k_7, k_10, k_11, k_12, k_13, k_14, k_16, k_32, k_36, k_40, k_41, k_42, k_43, k_49, k_64, k_80, k_96, k_97, k_100, k_109, k_110, k_127, k_128, k_146, k_147, k_160, k_2304, k_4608, k_13824, nI_add, pk_mul, pk_sub, nI_clamp, q_in, nI_ltI, nI_leI, nI_eq, forall_eq, e_shl, e_bit, e_b0, e_b1, e_bn, e_andn, fa_or, fa_and, e_m1, e_nneg]
      by_cases h40 : tx.getD i 0 = 40
      · refine ⟨fun q => absurd h40 q, fun _ => ?_⟩
        have e8 : enc ((none, none, none) :: (clP ns l).2 :: ls) = 14 :: enc ((clP ns l).2 :: ls) := by rw [enc]; rfl
        unfold wp_X11_waitsFor
        try simp (disch := omega) only [k_0, k_1, k_2, k_3, k_4, k_6, k_7, k_10, k_11, k_12, k_13, k_14, k_16, k_32, k_36, k_40, k_41, k_42, k_43, k_49, k_64, k_80, k_96, k_97, k_100, k_109, k_110, k_127, k_128, k_146, k_147, k_160, k_2304, k_4608, k_13824, nI_add, pk_mul, pk_sub, nI_clamp, q_in, nI_ltI, nI_leI, nI_eq, forall_eq, e_shl, e_bit, e_b0, e_b1, e_bn, e_andn, fa_or, fa_and, e_m1, e_nneg]
        repeat (first | refine And.intro (fun hh => absurd hh (by omega)) (fun _ => ?_) | refine And.intro (fun _ => ?_) (fun hh => absurd hh (by omega)) | refine And.intro (by omega) ?_)
        refine next _ _ _ _ _ _ _ _ (by unfold pstep; rw [if_pos h40]) rfl ?_ hfm' ?_
        · rw [e8]; rfl
        · rw [e8]; exact hwt'.push 14
      · have atom : ∀ sg kx, pstep (tx.getD i 0) ns l ls = ((clP ns l).1 ++ [(sg, 0, 0)], (l.1, (clP ns l).2.2.1, some (clP ns l).1.length) :: ls) → wp_X11_puts (nI ((clP ns l).1.map Prod.fst).length) fm' (nI sg) (fun f g => wp_X11_findForm_J144 K again kx f (nI (enc ((clP ns l).2 :: ls)).length) g wt' (nI i) (nI (tx.getD i 0))) := by
          intro sg kx hps
          refine s_puts hfm' (by omega) (fun fm2 hfm2 => ?_)
          have em : ((clP ns l).1 ++ [(sg, 0, 0)]).map Prod.fst = (clP ns l).1.map Prod.fst ++ [sg] := by simp
          refine next _ _ _ _ _ _ _ _ hps ?_ ?_ ?_ ?_
          · rw [em]
          · rw [e9]
          · rw [em]; exact hfm2
          · rw [e9]; exact hwt'
        refine ⟨fun _ => ⟨fun _ => ⟨fun _ => ⟨fun _ => ⟨fun h49 => ?_, fun h49 => ?_⟩, fun q => by omega⟩, fun q => by omega⟩, fun q => by omega⟩, fun q => absurd q h40⟩
        · rw [pk_sub (by omega)]
          refine atom _ _ ?_
          unfold pstep
          rw [if_neg h40, if_neg (by omega), if_neg (by omega), if_neg (by omega), if_neg h49]
        · refine atom _ _ ?_
          unfold pstep
          rw [if_neg h40, if_neg (by omega), if_neg (by omega), if_neg (by omega), if_pos h49]
    · have hL : ¬ (tx.getD i 0 = 49 ∨ (97 ≤ tx.getD i 0 ∧ tx.getD i 0 < 97 + k)) := by omega
      have h40 : ¬ tx.getD i 0 = 40 := by omega
      rw [if_neg hL, if_neg h40] at hs3
      have hnd : ¬ nd = true := fun q => by rw [if_pos q] at hs3; cases hs3
      have hit : l.2.2 ≠ none := fun q => hnd (p2.mpr q)
      have o3' := opt_some hit
      rw [if_neg hnd] at hs3
      refine s_isAtom hv0 hk1 hk c128 ?_
      rw [decide_eq_false hat]
      refine br_t (by decide) ?_
      have cm := clS_map (ns := ns) hit
      have sl := clS_len ns l
      have aa : ∀ z ∈ (if l.2.1.isSome then [11] else []) ++ (if l.1.isSome then [12] else []), z ≤ 12 := by
        intro z hz
        rcases List.mem_append.mp hz with q | q
        · split at q
          · rw [List.mem_singleton.mp q]; decide
          · exact absurd q List.not_mem_nil
        · split at q
          · rw [List.mem_singleton.mp q]; decide
          · exact absurd q List.not_mem_nil
      have al : ((if l.2.1.isSome then [11] else []) ++ (if l.1.isSome then [12] else [])).length ≤ 2 := by
        cases l.2.1.isSome <;> cases l.1.isSome <;> simp
      have ee2 : enc (l :: ls) = ((if l.2.1.isSome then [11] else []) ++ (if l.1.isSome then [12] else [])) ++ encR ls := by rw [ee, List.append_assoc]
      have erl : (encR ls).length ≤ (enc (l :: ls)).length := by rw [ee2, List.length_append]; exact Nat.le_add_left _ _
      have put : ∀ {Q : Int32 → Int32 → (Nat → Int32) → Prop}, (∀ fm', RW fm' ((clS ns l).1.map Prod.fst) → Q (nI ((clS ns l).1.map Prod.fst).length) (nI (encR ls).length) fm') → wp_X11_putsTighter (nI (ns.map Prod.fst).length) (nI (enc (l :: ls)).length) fm wt (nI 12) Q := by
        intro Q hQ
        rw [cm] at hQ
        have hWt2 := hWt
        rw [ee2] at hWt2 ⊢
        exact s_putsT hR hWt2 aa (fun y b' e => encR_head ls 12 (by decide) y b' e) (fun z hz => enc_14 (l :: ls) z (by rw [ee2]; exact hz)) (by decide) (by omega) (by rw [← ee2]; omega) hQ
      have hWR : WTR wt (encR ls) := by
        rw [ee2] at hWt
        exact hWt.drop
      unfold wp_X11_findForm_J53
      try simp (disch := omega) only [k_0, k_1, k_2, k_3, k_4, k_6, k_7, k_10, k_11, k_12, k_13, k_14, k_16, k_32, k_36, k_40, k_41, k_42, k_43, k_49, k_64, k_80, k_96, k_97, k_100, k_109, k_110, k_127, k_128, k_146, k_147, k_160, k_2304, k_4608, k_13824, nI_add, pk_mul, pk_sub, nI_clamp, q_in, nI_ltI, nI_leI, nI_eq, forall_eq, e_shl, e_bit, e_b0, e_b1, e_bn, e_andn, fa_or, fa_and, e_m1, e_nneg]
      by_cases h43 : tx.getD i 0 = 43
      · refine ⟨fun _ => ⟨fun _ => ⟨fun q => absurd h43 q, fun _ => put (fun fm' hfm' => ?_)⟩, fun q => by omega⟩, fun q => absurd q h40⟩
        have e8 : enc ((clS ns l).2 :: ls) = 12 :: encR ls := by
          rw [enc_eq, isSome_ne (clS_some hit)]
          rfl
        unfold wp_X11_waitsFor
        try simp (disch := omega) only [k_0, k_1, k_2, k_3, k_4, k_6, k_7, k_10, k_11, k_12, k_13, k_14, k_16, k_32, k_36, k_40, k_41, k_42, k_43, k_49, k_64, k_80, k_96, k_97, k_100, k_109, k_110, k_127, k_128, k_146, k_147, k_160, k_2304, k_4608, k_13824, nI_add, pk_mul, pk_sub, nI_clamp, q_in, nI_ltI, nI_leI, nI_eq, forall_eq, e_shl, e_bit, e_b0, e_b1, e_bn, e_andn, fa_or, fa_and, e_m1, e_nneg]
        repeat (first | refine And.intro (fun hh => absurd hh (by omega)) (fun _ => ?_) | refine And.intro (fun _ => ?_) (fun hh => absurd hh (by omega)) | refine And.intro (by omega) ?_)
        refine next _ _ _ _ _ _ _ _ (by unfold pstep; rw [if_neg h40, if_neg (by omega), if_neg (by omega), if_pos h43]) rfl ?_ hfm' ?_
        · rw [e8]; rfl
        · rw [e8]; exact hWR.push 12
      · rw [if_neg h43] at hs3
        by_cases h41 : tx.getD i 0 = 41 ∧ 0 < d
        · refine ⟨fun _ => ⟨fun q => absurd h41.1 q, fun _ => put (fun fm' hfm' => ?_)⟩, fun q => absurd q h40⟩
          cases ls with
          | nil => simp at p1; omega
          | cons m ms =>
            have e8 : encR (m :: ms) = 14 :: enc (m :: ms) := rfl
            have e10 : enc ((m.1, m.2.1, (clS ns l).2.1) :: ms) = enc (m :: ms) := by rw [enc, enc]
            rw [e8] at hWR ⊢
            have e11 : nI (14 :: enc (m :: ms)).length - nI 1 = nI (enc (m :: ms)).length := nI_pred _
            rw [e11]
            refine next _ _ _ _ _ _ _ _ (by unfold pstep; rw [if_neg h40, if_pos h41.1]) rfl ?_ hfm' ?_
            · rw [e10]
            · rw [e10]; exact hWR.2
        · rw [if_neg h41] at hs3
          have h42 : tx.getD i 0 = 42 := by
            apply Classical.byContradiction
            intro q
            rw [if_neg q] at hs3
            cases hs3
          refine ⟨fun _ => ⟨fun _ => ⟨fun _ => ⟨fun q => absurd h42 q, fun _ => ?_⟩, fun q => absurd q h43⟩, fun q => by omega⟩, fun q => absurd q h40⟩
          refine s_puts hR (by omega) (fun fm2 hfm2 => ?_)
          cases h3 : l.2.2 with
          | none => exact absurd h3 hit
          | some a =>
            have em : (ns ++ [(13, a, 0)]).map Prod.fst = ns.map Prod.fst ++ [13] := by simp
            have e10 : enc ((l.1, l.2.1, some ns.length) :: ls) = enc (l :: ls) := by rw [enc, enc]
            refine next (ns ++ [(13, a, 0)]) (l.1, l.2.1, some ns.length) ls _ _ _ _ _ (by unfold pstep; rw [if_neg h40, if_neg (by omega), if_pos h42, h3]) ?_ ?_ ?_ ?_
            · rw [em]
            · rw [e10]
            · rw [em]; exact hfm2
            · rw [e10]; exact hWt
