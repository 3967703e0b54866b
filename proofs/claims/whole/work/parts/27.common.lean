/-! greatest common beginnings, least common multiples -/
theorem Eqv.len {fr : Nat → Nat} (irr : ∀ a, ind fr a a = false) (sym : ∀ a b, ind fr a b = ind fr b a) {u w : List Nat} (h : Eqv (ind fr) u w) : u.length = w.length := by
  have := dvd_len u w [] ((dvd_nil irr sym u w).mpr h)
  simp at this
  omega
theorem Eqv.mem {f : Nat → Nat → Bool} (irr : ∀ a, f a a = false) {u w : List Nat} (h : Eqv f u w) {x : Nat} (hx : x ∈ u) : x ∈ w := by
  have h1 : x ∈ pj x x u := List.mem_filter.mpr ⟨hx, by simp⟩
  rw [h x x (irr x)] at h1
  exact (List.mem_filter.mp h1).1
theorem rmv_not {f : Nat → Nat → Bool} : ∀ {w : List Nat} {x : Nat}, x ∉ w → rmv f x w = none
  | [], x, _ => rfl
  | c :: w, x, h => by
    rw [rmv, if_neg (fun e => h (by rw [e]; exact List.mem_cons_self)), rmv_not (fun q => h (List.mem_cons_of_mem _ q))]
    split <;> rfl
theorem nfs_self {fr : Nat → Nat} (sym : ∀ a b, ind fr a b = ind fr b a) {k : Nat} : ∀ (n : Nat) (w : List Nat), (∀ x ∈ w, x < k) → n = w.length → Eqv (ind fr) (nfs (ind fr) k n w) w
  | 0, w, _, e => by rw [List.length_eq_zero_iff.mp e.symm]; exact Eqv.rf _
  | n + 1, w, hw, e => by
    obtain ⟨i, r, -, -, h3, h4⟩ := lowl_ex (f := ind fr) hw (fun q => by rw [q] at e; simp at e)
    rw [nfs_s h4]
    have h5 := rmv_len w i r h3
    exact (Eqv.cons i (nfs_self sym n r (fun x hx => hw x (rmv_mem h3 x hx)) (by omega))).tr (rmv_eqv sym w i r h3)
theorem nf_self {fr : Nat → Nat} (sym : ∀ a b, ind fr a b = ind fr b a) {k : Nat} {w : List Nat} (hw : ∀ x ∈ w, x < k) : Eqv (ind fr) (nf fr k w) w := nfs_self sym _ _ hw rfl
theorem nf_eqv {fr : Nat → Nat} (irr : ∀ a, ind fr a a = false) (sym : ∀ a b, ind fr a b = ind fr b a) (k : Nat) {u w : List Nat} (h : Eqv (ind fr) u w) : nf fr k u = nf fr k w := by
  unfold nf
  rw [h.len irr sym]
  exact nfs_eqv irr sym k _ u w h
/-- d is the greatest common beginning of a and b, and these remain -/
def CM (fr : Nat → Nat) (a b d r1 r2 : List Nat) : Prop := Eqv (ind fr) (d ++ r1) a ∧ Eqv (ind fr) (d ++ r2) b ∧ noCommon (ind fr) r1 r2
theorem s_nextQ {bA pA : Nat → Int32} {fr : Nat → Nat} (irr : ∀ a, ind fr a a = false) (sym : ∀ a b, ind fr a b = ind fr b a) {u : List Nat} {lA yA : Nat → Int32} (hP : PL fr u u.length lA yA bA pA) (h32 : u.length ≤ 32) {T x : Nat} {r : List Nat} (hT : TK u T r) (hx : x < 6) {K : Int32 → Prop} (h1 : rmv (ind fr) x r ≠ none → ∀ i, i < 32 → K (nI i)) (h2 : rmv (ind fr) x r = none → K (-1)) : wp_X3_nextPlace (nI T) bA pA (nI x) K := by
  refine s_nextPlace irr sym hP h32 hT.1 hx (fun i hi hn => h1 ?_ i hi) (fun hn => h2 ?_)
  · obtain ⟨r', e1, -⟩ := hT.take irr hn
    rw [e1]
    simp
  · rw [← hT.2]
    exact rem_no u _ x hn
theorem s_firstCommon {bA pA bB pB lA yA lB yB : Nat → Int32} {fr : Nat → Nat} (irr : ∀ a, ind fr a a = false) (sym : ∀ a b, ind fr a b = ind fr b a) {k : Nat} (hk : k ≤ 6) {u w : List Nat} (hP : PL fr u u.length lA yA bA pA) (hQ : PL fr w w.length lB yB bB pB) (h32 : u.length ≤ 32) (h33 : w.length ≤ 32) {T S : Nat} {r s : List Nat} (hT : TK u T r) (hS : TK w S s) {K : Int32 → Prop} (h1 : ∀ x, x < k → rmv (ind fr) x r ≠ none → rmv (ind fr) x s ≠ none → K (nI x)) (h2 : (∀ x, x < k → rmv (ind fr) x r = none ∨ rmv (ind fr) x s = none) → K (-1)) : wp_X10_firstCommonLetter (nI k) (nI T) bA pA (nI S) bB pB K := by
  unfold wp_X10_firstCommonLetter
  refine for_X10_firstCommonLetter_L2 _ _ _ _ _ _ _ _ _ (k) (fun i => ∀ x, x < i → rmv (ind fr) x r = none ∨ rmv (ind fr) x s = none) ?_ ?_ (0) _ rfl (Nat.zero_le _) (fun x hx => absurd hx (Nat.not_lt_zero _))
  · intro again i hi hJ hag
    have st : ∀ q : rmv (ind fr) i r = none ∨ rmv (ind fr) i s = none, again (nI (i + 1)) := fun q => hag (fun x hx => by
      by_cases e : x = i
      · subst e; exact q
      · exact hJ x (by omega))
    unfold wp_X10_firstCommonLetter_L2
    try simp (disch := omega) only [k_0, k_1, k_2, k_3, k_4, k_6, k_7, k_10, k_11, k_12, k_13, k_14, k_16, k_32, k_36, k_40, k_41, k_42, k_43, k_49, k_64, k_80, k_96, k_97, k_100, k_109, k_110, k_127, k_128, k_146, k_147, k_160, k_2304, k_4608, k_13824, nI_add, pk_mul, pk_sub, nI_clamp, q_in, nI_ltI, nI_leI, nI_eq, forall_eq, e_shl, e_bit, e_b0, e_b1, e_bn, e_andn, fa_or, fa_and, e_m1, e_nneg]
    repeat (first | refine And.intro (fun hh => absurd hh (by omega)) (fun _ => ?_) | refine And.intro (fun _ => ?_) (fun hh => absurd hh (by omega)) | refine And.intro (by omega) ?_)
    refine s_nextQ irr sym hP h32 hT (by omega) (fun q1 p hp => ?_) (fun q1 => br_t rfl (st (Or.inl q1)))
    refine br_f (by rw [q_m1 (by omega)]; exact id) (s_nextQ irr sym hQ h33 hS (by omega) (fun q2 p2 hp2 => ?_) (fun q2 => br_t rfl (st (Or.inr q2))))
    exact br_f (by rw [q_m1 (by omega)]; exact id) (h1 i hi q1 q2)
  · intro again hJ
    unfold wp_X10_firstCommonLetter_L2
    try simp (disch := omega) only [k_0, k_1, k_2, k_3, k_4, k_6, k_7, k_10, k_11, k_12, k_13, k_14, k_16, k_32, k_36, k_40, k_41, k_42, k_43, k_49, k_64, k_80, k_96, k_97, k_100, k_109, k_110, k_127, k_128, k_146, k_147, k_160, k_2304, k_4608, k_13824, nI_add, pk_mul, pk_sub, nI_clamp, q_in, nI_ltI, nI_leI, nI_eq, forall_eq, e_shl, e_bit, e_b0, e_b1, e_bn, e_andn, fa_or, fa_and, e_m1, e_nneg]
    repeat (first | refine And.intro (fun hh => absurd hh (by omega)) (fun _ => ?_) | refine And.intro (fun _ => ?_) (fun hh => absurd hh (by omega)) | refine And.intro (by omega) ?_)
    exact h2 hJ
theorem s_draftCommon {free wsz dl lA yA bA pA lB yB bB pB : Nat → Int32} {wlt : Nat → Nat → Int32} {ds l1 s1 t1 l2 s2 t2 : Int32} {fr : Nat → Nat} {k a b : Nat} (irr : ∀ a, ind fr a a = false) (sym : ∀ a b, ind fr a b = ind fr b a) (ha : a < 6) (hb : b < 6) (hf : FA free fr) (hk : k ≤ 6) {u w : List Nat} (hA : WR (wsz a) (wlt a) u) (hB : WR (wsz b) (wlt b) w) (hu : ∀ x ∈ u, x < k) (hw : ∀ x ∈ w, x < k) (h16 : u.length ≤ 16) (h17 : w.length ≤ 16) {K : Int32 → (Nat → Int32) → Int32 → Int32 → Int32 → (Nat → Int32) → (Nat → Int32) → (Nat → Int32) → (Nat → Int32) → Int32 → Int32 → Int32 → (Nat → Int32) → (Nat → Int32) → (Nat → Int32) → (Nat → Int32) → Prop} (hK : ∀ d r1 r2 T1 T2 l a1 b1 c1 d1 a2 b2 c2 d2, CM fr u w d r1 r2 → WR (nI d.length) l d → TK u T1 r1 → TK w T2 r2 → PL fr u u.length a1 b1 c1 d1 → PL fr w w.length a2 b2 c2 d2 → K (nI d.length) l (nI k) (nI u.length) (nI T1) a1 b1 c1 d1 (nI k) (nI w.length) (nI T2) a2 b2 c2 d2) : wp_X10_draftCommonPrefix (nI k) free wsz wlt ds dl l1 s1 t1 lA yA bA pA l2 s2 t2 lB yB bB pB (nI a) (nI b) K := by
  have e1 := hA.1
  have e2 := hB.1
  rw [e1] at hA
  rw [e2] at hB
  unfold wp_X10_draftCommonPrefix wp_X9_empty
  try simp (disch := omega) only [k_0, k_1, k_2, k_3, k_4, k_6, k_7, k_10, k_11, k_12, k_13, k_14, k_16, k_32, k_36, k_40, k_41, k_42, k_43, k_49, k_64, k_80, k_96, k_97, k_100, k_109, k_110, k_127, k_128, k_146, k_147, k_160, k_2304, k_4608, k_13824, nI_add, pk_mul, pk_sub, nI_clamp, q_in, nI_ltI, nI_leI, nI_eq, forall_eq, e_shl, e_bit, e_b0, e_b1, e_bn, e_andn, fa_or, fa_and, e_m1, e_nneg]
  rw [e1, e2]
  refine ⟨ha, s_lay hf hk hA hu (fun a1 b1 c1 d1 hP => ⟨hb, s_lay hf hk hB hw (fun a2 b2 c2 d2 hQ => ?_)⟩)⟩
  refine for_X10_draftCommonPrefix_L55 _ _ _ _ _ _ _ (16) (fun i s l t1 t2 => ∃ d r1 r2 T1 T2, d.length = i ∧ s = nI d.length ∧ WR s l d ∧ t1 = nI T1 ∧ t2 = nI T2 ∧ TK u T1 r1 ∧ TK w T2 r2 ∧ Eqv (ind fr) (d ++ r1) u ∧ Eqv (ind fr) (d ++ r2) w) ?_ ?_ (0) _ _ _ _ _ rfl (Nat.zero_le _) (⟨[], u, w, 0, 0, rfl, rfl, ⟨rfl, by simp, fun i hi => absurd hi (Nat.not_lt_zero _)⟩, rfl, rfl, TK.start u, TK.start w, Eqv.rf _, Eqv.rf _⟩)
  · rintro again i s l t1 t2 hi ⟨d, r1, r2, T1, T2, rfl, rfl, hl, rfl, rfl, hT1, hT2, q1, q2⟩ hag
    unfold wp_X10_draftCommonPrefix_L55
    try simp (disch := omega) only [k_0, k_1, k_2, k_3, k_4, k_6, k_7, k_10, k_11, k_12, k_13, k_14, k_16, k_32, k_36, k_40, k_41, k_42, k_43, k_49, k_64, k_80, k_96, k_97, k_100, k_109, k_110, k_127, k_128, k_146, k_147, k_160, k_2304, k_4608, k_13824, nI_add, pk_mul, pk_sub, nI_clamp, q_in, nI_ltI, nI_leI, nI_eq, forall_eq, e_shl, e_bit, e_b0, e_b1, e_bn, e_andn, fa_or, fa_and, e_m1, e_nneg]
    repeat (first | refine And.intro (fun hh => absurd hh (by omega)) (fun _ => ?_) | refine And.intro (fun _ => ?_) (fun hh => absurd hh (by omega)) | refine And.intro (by omega) ?_)
    refine s_firstCommon irr sym hk hP hQ (by omega) (by omega) hT1 hT2 (fun x hx g1 g2 => ?_) (fun hn => ?_)
    · refine br_f' (by rw [q_m1 (by omega)]; exact id) ?_
      refine s_take irr sym hP (by omega) hT1 (by omega) (fun r1' T1' f1 hT1' => ?_) (fun f1 => absurd f1 g1)
      refine s_take irr sym hQ (by omega) hT2 (by omega) (fun r2' T2' f2 hT2' => ?_) (fun f2 => absurd f2 g2)
      refine s_push hl (by omega) (fun l' hl' => ?_)
      try simp (disch := omega) only [k_0, k_1, k_2, k_3, k_4, k_6, k_7, k_10, k_11, k_12, k_13, k_14, k_16, k_32, k_36, k_40, k_41, k_42, k_43, k_49, k_64, k_80, k_96, k_97, k_100, k_109, k_110, k_127, k_128, k_146, k_147, k_160, k_2304, k_4608, k_13824, nI_add, pk_mul, pk_sub, nI_clamp, q_in, nI_ltI, nI_leI, nI_eq, forall_eq, e_shl, e_bit, e_b0, e_b1, e_bn, e_andn, fa_or, fa_and, e_m1, e_nneg]
      have h3 := rmv_eqv sym r1 x r1' f1
      have h4 := rmv_eqv sym r2 x r2' f2
      refine hag _ _ _ _ ⟨d ++ [x], r1', r2', T1', T2', by simp, rfl, hl', rfl, rfl, hT1', hT2', ?_, ?_⟩
      · rw [List.append_assoc]
        exact (Eqv.app (Eqv.rf d) h3).tr q1
      · rw [List.append_assoc]
        exact (Eqv.app (Eqv.rf d) h4).tr q2
    · refine br_t' rfl (hK d r1 r2 T1 T2 l _ _ _ _ _ _ _ _ ⟨q1, q2, fun x => ?_⟩ hl hT1 hT2 hP hQ)
      by_cases hx : x < k
      · exact hn x hx
      · exact Or.inl (rmv_not (fun q => hx (hu x (hT1.mem q))))
  · rintro again s l t1 t2 ⟨d, r1, r2, T1, T2, hd, rfl, hl, rfl, rfl, hT1, hT2, q1, q2⟩
    unfold wp_X10_draftCommonPrefix_L55
    try simp (disch := omega) only [k_0, k_1, k_2, k_3, k_4, k_6, k_7, k_10, k_11, k_12, k_13, k_14, k_16, k_32, k_36, k_40, k_41, k_42, k_43, k_49, k_64, k_80, k_96, k_97, k_100, k_109, k_110, k_127, k_128, k_146, k_147, k_160, k_2304, k_4608, k_13824, nI_add, pk_mul, pk_sub, nI_clamp, q_in, nI_ltI, nI_leI, nI_eq, forall_eq, e_shl, e_bit, e_b0, e_b1, e_bn, e_andn, fa_or, fa_and, e_m1, e_nneg]
    repeat (first | refine And.intro (fun hh => absurd hh (by omega)) (fun _ => ?_) | refine And.intro (fun _ => ?_) (fun hh => absurd hh (by omega)) | refine And.intro (by omega) ?_)
    refine hK d r1 r2 T1 T2 l _ _ _ _ _ _ _ _ ⟨q1, q2, fun x => Or.inl ?_⟩ hl hT1 hT2 hP hQ
    have h5 := q1.len irr sym
    simp at h5
    have h6 : r1 = [] := List.length_eq_zero_iff.mp (by omega)
    rw [h6]
    rfl
theorem s_exch {g1 g2 : Nat → Int32} {T1 T2 : Nat → Bool} (h1 : GN g1 T1 16) (h2 : GN g2 T2 16) {K : (Nat → Int32) → (Nat → Int32) → Prop} (hK : ∀ g1' g2', GN g1' T2 16 → GN g2' T1 16 → K g1' g2') : wp_X11_exchangesGone g1 g2 16 K := by
  unfold wp_X11_exchangesGone
  refine for_X11_exchangesGone_L2 _ _ (16) (fun i a b => (∀ j, j < i → a j = bI (T2 j) ∧ b j = bI (T1 j)) ∧ ∀ j, i ≤ j → j < 16 → a j = bI (T1 j) ∧ b j = bI (T2 j)) ?_ ?_ (0) _ _ _ rfl (Nat.zero_le _) (⟨fun j hj => absurd hj (Nat.not_lt_zero _), fun j _ hj => ⟨h1 j hj, h2 j hj⟩⟩)
  · rintro again i a b hi ⟨q1, q2⟩ hag
    unfold wp_X11_exchangesGone_L2
    try simp (disch := omega) only [k_0, k_1, k_2, k_3, k_4, k_6, k_7, k_10, k_11, k_12, k_13, k_14, k_16, k_32, k_36, k_40, k_41, k_42, k_43, k_49, k_64, k_80, k_96, k_97, k_100, k_109, k_110, k_127, k_128, k_146, k_147, k_160, k_2304, k_4608, k_13824, nI_add, pk_mul, pk_sub, nI_clamp, q_in, nI_ltI, nI_leI, nI_eq, forall_eq, e_shl, e_bit, e_b0, e_b1, e_bn, e_andn, fa_or, fa_and, e_m1, e_nneg]
    repeat (first | refine And.intro (fun hh => absurd hh (by omega)) (fun _ => ?_) | refine And.intro (fun _ => ?_) (fun hh => absurd hh (by omega)) | refine And.intro (by omega) ?_)
    rw [(q2 i (Nat.le_refl _) hi).1, (q2 i (Nat.le_refl _) hi).2, vb_b, vb_b]
    refine hag _ _ ⟨fun j hj => ?_, fun j hj h16 => ?_⟩
    · by_cases e : j = i
      · subst e; exact ⟨pk_us, pk_us⟩
      · rw [pk_un e, pk_un e]; exact q1 j (by omega)
    · rw [pk_un (by omega), pk_un (by omega)]; exact q2 j (by omega) h16
  · rintro again a b ⟨q1, -⟩
    unfold wp_X11_exchangesGone_L2
    try simp (disch := omega) only [k_0, k_1, k_2, k_3, k_4, k_6, k_7, k_10, k_11, k_12, k_13, k_14, k_16, k_32, k_36, k_40, k_41, k_42, k_43, k_49, k_64, k_80, k_96, k_97, k_100, k_109, k_110, k_127, k_128, k_146, k_147, k_160, k_2304, k_4608, k_13824, nI_add, pk_mul, pk_sub, nI_clamp, q_in, nI_ltI, nI_leI, nI_eq, forall_eq, e_shl, e_bit, e_b0, e_b1, e_bn, e_andn, fa_or, fa_and, e_m1, e_nneg]
    repeat (first | refine And.intro (fun hh => absurd hh (by omega)) (fun _ => ?_) | refine And.intro (fun _ => ?_) (fun hh => absurd hh (by omega)) | refine And.intro (by omega) ?_)
    exact hK _ _ (fun j hj => (q1 j hj).1) (fun j hj => (q1 j hj).2)
theorem GN.le {g : Nat → Int32} {T : Nat → Bool} {n m : Nat} (h : GN g T n) (hm : m ≤ n) : GN g T m := fun j hj => h j (by omega)
theorem s_placeInOther {v g1 g2 other : Nat → Int32} {T1 T2 : Nat → Bool} {fr : Nat → Nat} (hf : FV v fr) (h1 : GN g1 T1 16) (h2 : GN g2 T2 16) {u : List Nat} (hu : ∀ x ∈ u, x < 6) (hR : RW other u) (h16 : u.length ≤ 16) {x : Nat} (hx : x < 6) {K : Int32 → (Nat → Int32) → (Nat → Int32) → Prop} (hy : ∀ i g1' g2', i < u.length → isNx (ind fr) u T2 x i → GN g1' T1 16 → GN g2' T2 16 → K (nI i) g1' g2') (hn : ∀ g1' g2', (∀ i, ¬ isNx (ind fr) u T2 x i) → GN g1' T1 16 → GN g2' T2 16 → K (-1) g1' g2') : wp_X11_placeInOther (nI u.length) v other g1 g2 (nI x) K := by
  unfold wp_X11_placeInOther
  refine s_exch h1 h2 (fun a b ha hb => ?_)
  refine s_placeOf hf hu hR (by omega) (by omega) (by decide) (ha.le h16) (by omega) (fun i hi hi2 => ?_) (fun hi2 => ?_)
  · exact s_exch ha hb (fun a' b' ha' hb' => hy i _ _ hi hi2 ha' hb')
  · exact s_exch ha hb (fun a' b' ha' hb' => hn _ _ hi2 ha' hb')
theorem s_findCommon {v one other g1 g2 cm : Nat → Int32} {cl : Int32} {fr : Nat → Nat} {k : Nat} (irr : ∀ a, ind fr a a = false) (sym : ∀ a b, ind fr a b = ind fr b a) (hf : FV v fr) (hv0 : v 0 = nI k) (hk : k ≤ 6) {u w : List Nat} (hu : ∀ x ∈ u, x < k) (hw : ∀ x ∈ w, x < k) (hU : RW one u) (hW : RW other w) (h16 : u.length ≤ 16) (h17 : w.length ≤ 16) {K : Int32 → (Nat → Int32) → (Nat → Int32) → (Nat → Int32) → Prop} (hK : ∀ d T1 T2 g1 cm g2, CM fr u w d (rem u T1) (rem w T2) → RW cm d → GN g1 T1 16 → GN g2 T2 16 → K (nI d.length) g1 cm g2) : wp_X11_findCommon (nI u.length) (nI w.length) cl v one other g1 cm g2 K := by
  have hu6 : ∀ x ∈ u, x < 6 := fun x hx => Nat.lt_of_lt_of_le (hu x hx) hk
  have hw6 : ∀ x ∈ w, x < 6 := fun x hx => Nat.lt_of_lt_of_le (hw x hx) hk
  unfold wp_X11_findCommon
  refine s_allThere (n := 16) (by decide) (fun ga hga => ?_)
  refine for_X11_findCommon_L8 _ (16) (fun i g => ∀ j, j < i → g j = bI false) ?_ ?_ (0) _ _ rfl (Nat.zero_le _) (fun j hj => absurd hj (Nat.not_lt_zero _))
  · intro again i g hi hJ hag
    unfold wp_X11_findCommon_L8
    rw [vb_0]
    try simp (disch := omega) only [k_0, k_1, k_2, k_3, k_4, k_6, k_7, k_10, k_11, k_12, k_13, k_14, k_16, k_32, k_36, k_40, k_41, k_42, k_43, k_49, k_64, k_80, k_96, k_97, k_100, k_109, k_110, k_127, k_128, k_146, k_147, k_160, k_2304, k_4608, k_13824, nI_add, pk_mul, pk_sub, nI_clamp, q_in, nI_ltI, nI_leI, nI_eq, forall_eq, e_shl, e_bit, e_b0, e_b1, e_bn, e_andn, fa_or, fa_and, e_m1, e_nneg]
    repeat (first | refine And.intro (fun hh => absurd hh (by omega)) (fun _ => ?_) | refine And.intro (fun _ => ?_) (fun hh => absurd hh (by omega)) | refine And.intro (by omega) ?_)
    refine hag _ (fun j hj => ?_)
    by_cases e : j = i
    · subst e; exact pk_us
    · rw [pk_un e]; exact hJ j (by omega)
  intro again gb hgb
  unfold wp_X11_findCommon_L8
  try simp (disch := omega) only [k_0, k_1, k_2, k_3, k_4, k_6, k_7, k_10, k_11, k_12, k_13, k_14, k_16, k_32, k_36, k_40, k_41, k_42, k_43, k_49, k_64, k_80, k_96, k_97, k_100, k_109, k_110, k_127, k_128, k_146, k_147, k_160, k_2304, k_4608, k_13824, nI_add, pk_mul, pk_sub, nI_clamp, q_in, nI_ltI, nI_leI, nI_eq, forall_eq, e_shl, e_bit, e_b0, e_b1, e_bn, e_andn, fa_or, fa_and, e_m1, e_nneg]
  repeat (first | refine And.intro (fun hh => absurd hh (by omega)) (fun _ => ?_) | refine And.intro (fun _ => ?_) (fun hh => absurd hh (by omega)) | refine And.intro (by omega) ?_)
  refine lp_X11_findCommon_L34_of _ _ _ _ _ _ (fun x c a m b => ∃ d T1 T2 more, x = bI more ∧ c = nI d.length ∧ GN a T1 16 ∧ GN b T2 16 ∧ RW m d ∧ Eqv (ind fr) (d ++ rem u T1) u ∧ Eqv (ind fr) (d ++ rem w T2) w ∧ (more = false → noCommon (ind fr) (rem u T1) (rem w T2))) (fun x c _ _ _ => 2 * (16 - c.toNatClampNeg) + x.toNatClampNeg) ?_ _ _ _ _ _ (⟨[], fun _ => false, fun _ => false, true, rfl, rfl, hga, hgb, fun i hi => absurd hi (Nat.not_lt_zero _), by rw [rem_none u _ (fun _ _ => rfl)]; exact Eqv.rf _, by rw [rem_none w _ (fun _ _ => rfl)]; exact Eqv.rf _, fun q => by cases q⟩)
  rintro again2 x c a m b ⟨d, T1, T2, more, rfl, rfl, ha, hb, hm, q1, q2, q3⟩ hag
  have dl := q1.len irr sym
  simp at dl
  unfold wp_X11_findCommon_L34
  cases more with
  | false => exact br_t (by decide) (hK d T1 T2 _ _ _ ⟨q1, q2, q3 rfl⟩ hm ha hb)
  | true =>
    refine br_f (by decide) ?_
    refine for_X11_findCommon_L42 _ _ _ _ _ _ (k) (fun i x c a m b => ∃ d' T1 T2 more, x = bI more ∧ c = nI d'.length ∧ GN a T1 16 ∧ GN b T2 16 ∧ RW m d' ∧ Eqv (ind fr) (d' ++ rem u T1) u ∧ Eqv (ind fr) (d' ++ rem w T2) w ∧ d.length ≤ d'.length ∧ (more = true → d.length < d'.length) ∧ (more = false → ∀ x, x < i → rmv (ind fr) x (rem u T1) = none ∨ rmv (ind fr) x (rem w T2) = none)) ?_ ?_ (0) _ _ _ _ _ _ rfl (Nat.zero_le _) (⟨d, T1, T2, false, rfl, rfl, ha, hb, hm, q1, q2, Nat.le_refl _, fun q => by (cases q), fun _ x hx => absurd hx (Nat.not_lt_zero _)⟩)
    · rintro again3 i x c a m b hi ⟨d', S1, S2, mo, rfl, rfl, ga, gb, gm, p1, p2, p3, p4, p5⟩ hag3
      have dl' := p1.len irr sym
      simp at dl'
      unfold wp_X11_findCommon_L42
      try simp (disch := omega) only [k_0, k_1, k_2, k_3, k_4, k_6, k_7, k_10, k_11, k_12, k_13, k_14, k_16, k_32, k_36, k_40, k_41, k_42, k_43, k_49, k_64, k_80, k_96, k_97, k_100, k_109, k_110, k_127, k_128, k_146, k_147, k_160, k_2304, k_4608, k_13824, nI_add, pk_mul, pk_sub, nI_clamp, q_in, nI_ltI, nI_leI, nI_eq, forall_eq, e_shl, e_bit, e_b0, e_b1, e_bn, e_andn, fa_or, fa_and, e_m1, e_nneg]
      rw [hv0]
      try simp (disch := omega) only [k_0, k_1, k_2, k_3, k_4, k_6, k_7, k_10, k_11, k_12, k_13, k_14, k_16, k_32, k_36, k_40, k_41, k_42, k_43, k_49, k_64, k_80, k_96, k_97, k_100, k_109, k_110, k_127, k_128, k_146, k_147, k_160, k_2304, k_4608, k_13824, nI_add, pk_mul, pk_sub, nI_clamp, q_in, nI_ltI, nI_leI, nI_eq, forall_eq, e_shl, e_bit, e_b0, e_b1, e_bn, e_andn, fa_or, fa_and, e_m1, e_nneg]
      repeat (first | refine And.intro (fun hh => absurd hh (by omega)) (fun _ => ?_) | refine And.intro (fun _ => ?_) (fun hh => absurd hh (by omega)) | refine And.intro (by omega) ?_)
      refine s_placeOf hf hu6 hU (by omega) (by omega) (by decide) (ga.le h16) (by omega) (fun p hp hp2 => ?_) (fun hp2 => ?_)
      · have f1 := rem_nx irr u S1 i p hp2
        have f1l := rmv_len _ _ _ f1
        refine s_placeInOther hf ga gb hw6 hW h17 (by omega) (fun p' a' b' hp' hp2' ga' gb' => ?_) (fun a' b' hp2' ga' gb' => ?_)
        · have f2 := rem_nx irr w S2 i p' hp2'
          try simp (disch := omega) only [k_0, k_1, k_2, k_3, k_4, k_6, k_7, k_10, k_11, k_12, k_13, k_14, k_16, k_32, k_36, k_40, k_41, k_42, k_43, k_49, k_64, k_80, k_96, k_97, k_100, k_109, k_110, k_127, k_128, k_146, k_147, k_160, k_2304, k_4608, k_13824, nI_add, pk_mul, pk_sub, nI_clamp, q_in, nI_ltI, nI_leI, nI_eq, forall_eq, e_shl, e_bit, e_b0, e_b1, e_bn, e_andn, fa_or, fa_and, e_m1, e_nneg]
          repeat (first | refine And.intro (fun hh => absurd hh (by omega)) (fun _ => ?_) | refine And.intro (fun _ => ?_) (fun hh => absurd hh (by omega)) | refine And.intro (by omega) ?_)
          refine hag3 _ _ _ _ _ ⟨d' ++ [i], setT S1 p, setT S2 p', true, rfl, by simp, ga'.set, gb'.set, gm.push i, ?_, ?_, by simp; omega, fun _ => by simp; omega, fun q => by cases q⟩
          · rw [List.append_assoc]
            exact (Eqv.app (Eqv.rf d') (rmv_eqv sym _ i _ f1)).tr p1
          · rw [List.append_assoc]
            exact (Eqv.app (Eqv.rf d') (rmv_eqv sym _ i _ f2)).tr p2
        · refine br_f (nI_pos (by omega)) (br_t (by decide) ?_)
          try simp (disch := omega) only [k_0, k_1, k_2, k_3, k_4, k_6, k_7, k_10, k_11, k_12, k_13, k_14, k_16, k_32, k_36, k_40, k_41, k_42, k_43, k_49, k_64, k_80, k_96, k_97, k_100, k_109, k_110, k_127, k_128, k_146, k_147, k_160, k_2304, k_4608, k_13824, nI_add, pk_mul, pk_sub, nI_clamp, q_in, nI_ltI, nI_leI, nI_eq, forall_eq, e_shl, e_bit, e_b0, e_b1, e_bn, e_andn, fa_or, fa_and, e_m1, e_nneg]
          refine hag3 _ _ _ _ _ ⟨d', S1, S2, mo, rfl, rfl, ga', gb', gm, p1, p2, p3, p4, fun q x hx => ?_⟩
          by_cases e : x = i
          · subst e; exact Or.inr (rem_no w S2 x hp2')
          · exact p5 q x (by omega)
      · have nxt : ∀ a' b', GN a' S1 16 → GN b' S2 16 → again3 (bI mo) (nI (i + 1)) (nI d'.length) a' m b' := fun a' b' ga' gb' => hag3 _ _ _ _ _ ⟨d', S1, S2, mo, rfl, rfl, ga', gb', gm, p1, p2, p3, p4, fun q x hx => by
          by_cases e : x = i
          · subst e; exact Or.inl (rem_no u S1 x hp2)
          · exact p5 q x (by omega)⟩
        refine s_placeInOther hf ga gb hw6 hW h17 (by omega) (fun p' a' b' hp' hp2' ga' gb' => ?_) (fun a' b' hp2' ga' gb' => ?_)
        · refine br_t (by decide) ?_
          try simp (disch := omega) only [k_0, k_1, k_2, k_3, k_4, k_6, k_7, k_10, k_11, k_12, k_13, k_14, k_16, k_32, k_36, k_40, k_41, k_42, k_43, k_49, k_64, k_80, k_96, k_97, k_100, k_109, k_110, k_127, k_128, k_146, k_147, k_160, k_2304, k_4608, k_13824, nI_add, pk_mul, pk_sub, nI_clamp, q_in, nI_ltI, nI_leI, nI_eq, forall_eq, e_shl, e_bit, e_b0, e_b1, e_bn, e_andn, fa_or, fa_and, e_m1, e_nneg]
          exact nxt _ _ ga' gb'
        · refine br_t (by decide) ?_
          try simp (disch := omega) only [k_0, k_1, k_2, k_3, k_4, k_6, k_7, k_10, k_11, k_12, k_13, k_14, k_16, k_32, k_36, k_40, k_41, k_42, k_43, k_49, k_64, k_80, k_96, k_97, k_100, k_109, k_110, k_127, k_128, k_146, k_147, k_160, k_2304, k_4608, k_13824, nI_add, pk_mul, pk_sub, nI_clamp, q_in, nI_ltI, nI_leI, nI_eq, forall_eq, e_shl, e_bit, e_b0, e_b1, e_bn, e_andn, fa_or, fa_and, e_m1, e_nneg]
          exact nxt _ _ ga' gb'
    · rintro again3 x c a m b ⟨d', S1, S2, mo, rfl, rfl, ga, gb, gm, p1, p2, p3, p4, p5⟩
      have dl' := p1.len irr sym
      simp at dl'
      unfold wp_X11_findCommon_L42
      try simp (disch := omega) only [k_0, k_1, k_2, k_3, k_4, k_6, k_7, k_10, k_11, k_12, k_13, k_14, k_16, k_32, k_36, k_40, k_41, k_42, k_43, k_49, k_64, k_80, k_96, k_97, k_100, k_109, k_110, k_127, k_128, k_146, k_147, k_160, k_2304, k_4608, k_13824, nI_add, pk_mul, pk_sub, nI_clamp, q_in, nI_ltI, nI_leI, nI_eq, forall_eq, e_shl, e_bit, e_b0, e_b1, e_bn, e_andn, fa_or, fa_and, e_m1, e_nneg]
      rw [hv0]
      try simp (disch := omega) only [k_0, k_1, k_2, k_3, k_4, k_6, k_7, k_10, k_11, k_12, k_13, k_14, k_16, k_32, k_36, k_40, k_41, k_42, k_43, k_49, k_64, k_80, k_96, k_97, k_100, k_109, k_110, k_127, k_128, k_146, k_147, k_160, k_2304, k_4608, k_13824, nI_add, pk_mul, pk_sub, nI_clamp, q_in, nI_ltI, nI_leI, nI_eq, forall_eq, e_shl, e_bit, e_b0, e_b1, e_bn, e_andn, fa_or, fa_and, e_m1, e_nneg]
      repeat (first | refine And.intro (fun hh => absurd hh (by omega)) (fun _ => ?_) | refine And.intro (fun _ => ?_) (fun hh => absurd hh (by omega)) | refine And.intro (by omega) ?_)
      refine hag _ _ _ _ _ ⟨d', S1, S2, mo, rfl, rfl, ga, gb, gm, p1, p2, fun q x => ?_⟩ ?_
      · by_cases hx : x < k
        · exact p5 q x hx
        · refine Or.inl (rmv_not (fun hm2 => hx ?_))
          rw [mem_rem] at hm2
          obtain ⟨j, hj, -, e⟩ := hm2
          rw [← e]
          exact hu _ (getD_mem hj)
      · rw [nI_clamp (by omega), nI_clamp (by omega)]
        cases mo with
        | true =>
          have := p4 rfl
          show 2 * (16 - d'.length) + 1 < 2 * (16 - d.length) + 1
          omega
        | false =>
          show 2 * (16 - d'.length) + 0 < 2 * (16 - d.length) + 1
          omega
theorem M_commonPrefix {A_now_alphabet_count : Int32} {A_now_alphabet_free : Nat → Int32} {A_now_words_size : Nat → Int32} {A_now_words_letters : Nat → Nat → Int32} {A_now_recogniser_states : Int32} {A_now_recogniser_accepting : Int32} {A_now_recogniser_arrows : Nat → Int32} {A_draft_size : Int32} {A_draft_letters : Nat → Int32} {A_places_letters : Int32} {A_places_size : Int32} {A_places_taken : Int32} {A_places_letterAt : Nat → Int32} {A_places_layerAt : Nat → Int32} {A_places_before : Nat → Int32} {A_places_placesOf : Nat → Int32} {A_otherPlaces_letters : Int32} {A_otherPlaces_size : Int32} {A_otherPlaces_taken : Int32} {A_otherPlaces_letterAt : Nat → Int32} {A_otherPlaces_layerAt : Nat → Int32} {A_otherPlaces_before : Nat → Int32} {A_otherPlaces_placesOf : Nat → Int32} {B_v : Nat → Int32} {B_oneLength : Int32} {B_otherLength : Int32} {B_madeLength : Int32} {B_commonLength : Int32} {B_one : Nat → Int32} {B_other : Nat → Int32} {B_made : Nat → Int32} {B_isGone : Nat → Int32} {B_common : Nat → Int32} {B_isGoneToo : Nat → Int32} (x1 x2 x3 : Int32) (hR : REL A_now_alphabet_count A_now_alphabet_free A_now_words_size A_now_words_letters A_now_recogniser_states A_now_recogniser_accepting A_now_recogniser_arrows B_v) {K : Int32 → (Nat → Int32) → (Nat → Nat → Int32) → Int32 → (Nat → Int32) → Int32 → Int32 → Int32 → (Nat → Int32) → (Nat → Int32) → (Nat → Int32) → (Nat → Int32) → Int32 → Int32 → Int32 → (Nat → Int32) → (Nat → Int32) → (Nat → Int32) → (Nat → Int32) → Prop} (hK : ∀ (r : Int32) A_now_words_size' A_now_words_letters' A_draft_size' A_draft_letters' A_places_letters' A_places_size' A_places_taken' A_places_letterAt' A_places_layerAt' A_places_before' A_places_placesOf' A_otherPlaces_letters' A_otherPlaces_size' A_otherPlaces_taken' A_otherPlaces_letterAt' A_otherPlaces_layerAt' A_otherPlaces_before' A_otherPlaces_placesOf', (∀ Q : Int32 → Int32 → Int32 → Int32 → Int32 → (Nat → Int32) → (Nat → Int32) → (Nat → Int32) → (Nat → Int32) → (Nat → Int32) → (Nat → Int32) → (Nat → Int32) → Prop, (∀ B_oneLength' B_otherLength' B_madeLength' B_commonLength' B_v' B_one' B_other' B_made' B_isGone' B_common' B_isGoneToo', REL A_now_alphabet_count A_now_alphabet_free A_now_words_size' A_now_words_letters' A_now_recogniser_states A_now_recogniser_accepting A_now_recogniser_arrows B_v' → Q r B_oneLength' B_otherLength' B_madeLength' B_commonLength' B_v' B_one' B_other' B_made' B_isGone' B_common' B_isGoneToo') → wp_X11_commonPrefix B_oneLength B_otherLength B_madeLength B_commonLength B_v B_one B_other B_made B_isGone B_common B_isGoneToo x1 x2 x3 Q) → K r A_now_words_size' A_now_words_letters' A_draft_size' A_draft_letters' A_places_letters' A_places_size' A_places_taken' A_places_letterAt' A_places_layerAt' A_places_before' A_places_placesOf' A_otherPlaces_letters' A_otherPlaces_size' A_otherPlaces_taken' A_otherPlaces_letterAt' A_otherPlaces_layerAt' A_otherPlaces_before' A_otherPlaces_placesOf') : wp_X10_commonPrefix A_now_alphabet_count A_now_alphabet_free A_now_words_size A_now_words_letters A_draft_size A_draft_letters A_places_letters A_places_size A_places_taken A_places_letterAt A_places_layerAt A_places_before A_places_placesOf A_otherPlaces_letters A_otherPlaces_size A_otherPlaces_taken A_otherPlaces_letterAt A_otherPlaces_layerAt A_otherPlaces_before A_otherPlaces_placesOf x1 x2 x3 K := by
  have hR0 := hR
  obtain ⟨k, fr, W, n, ar, ac, hS, hA, hB⟩ := hR
  have hS0 := hS
  have hA0 := hA
  have hB0 := hB
  obtain ⟨hFR, hWS, hn1, hn6, har, hacl⟩ := hS
  obtain ⟨rfl, hF, hW, rfl, rfl, hAr⟩ := hA
  obtain ⟨hk0, hV, hWV, hn0, hac0, hArV, hAr6⟩ := hB
  have hk6 := hFR.2.1
  have hk2 := hFR.1
  have irr := hFR.irr
  have sym := hFR.sym
  unfold wp_X10_commonPrefix
  rcases in_cases x1 (n := 6) (by omega) with ⟨w, hw, rfl⟩ | hx
  · rcases in_cases x2 (n := 6) (by omega) with ⟨o, ho, rfl⟩ | hx
    · rcases in_cases x3 (n := 6) (by omega) with ⟨t, ht, rfl⟩ | hx
      · have ws1 := (hW w hw).1
        have wr1 := hW w hw
        rw [ws1] at wr1
        have wv1 := hWV w hw
        obtain ⟨l161, lk1⟩ := hWS w hw
        have lk61 : ∀ x ∈ W w, x < 6 := fun x h => Nat.lt_of_lt_of_le (lk1 x h) hk6
        have ws2 := (hW o ho).1
        have wr2 := hW o ho
        rw [ws2] at wr2
        have wv2 := hWV o ho
        obtain ⟨l162, lk2⟩ := hWS o ho
        have lk62 : ∀ x ∈ W o, x < 6 := fun x h => Nat.lt_of_lt_of_le (lk2 x h) hk6
        refine s_word hw ?_
        (first | refine br_t (by decide) ?_ | refine br_f (by decide) ?_ | refine br_t' (by decide) ?_ | refine br_f' (by decide) ?_)
        refine s_word ho ?_
        (first | refine br_t (by decide) ?_ | refine br_f (by decide) ?_ | refine br_t' (by decide) ?_ | refine br_f' (by decide) ?_)
        refine s_word ht ?_
        (first | refine br_t (by decide) ?_ | refine br_f (by decide) ?_ | refine br_t' (by decide) ?_ | refine br_f' (by decide) ?_)
        refine s_draftCommon irr sym hw ho hF hk6 (hW w hw) (hW o ho) lk1 lk2 l161 l162 (fun d r1 r2 T1 T2 l a1 b1 c1 d1 a2 b2 c2 d2 hC hl hT1 hT2 hP hP2 => ?_)
        have dlen := hC.1.len irr sym
        simp at dlen
        have dk : ∀ x ∈ d, x < k := fun x hx => lk1 x (hC.1.mem irr (List.mem_append_left _ hx))
        have nl := nf_len (fr := fr) dk
        refine s_settle irr sym ht hF hk6 hl dk (by omega) (fun lt' s1 s2 s3 a b c d hl2 => ?_)
        apply hK
        intro Q hQ
        unfold wp_X11_commonPrefix
        refine s_isWord hw ?_
        (first | refine br_t (by decide) ?_ | refine br_f (by decide) ?_ | refine br_t' (by decide) ?_ | refine br_f' (by decide) ?_)
        refine s_isWord ho ?_
        (first | refine br_t (by decide) ?_ | refine br_f (by decide) ?_ | refine br_t' (by decide) ?_ | refine br_f' (by decide) ?_)
        refine s_isWord ht ?_
        (first | refine br_t (by decide) ?_ | refine br_f (by decide) ?_ | refine br_t' (by decide) ?_ | refine br_f' (by decide) ?_)
        refine s_takesOne hw wv1 (fun one h1 => s_takesOther ho wv2 (fun oth h2 => s_findCommon irr sym hV hk0 hk6 lk1 lk2 h1 h2 l161 l162 (fun d' S1 S2 g1 cm g2 hC' hcm hg1 hg2 => ?_)))
        obtain ⟨e1, -, -⟩ := gcd_one irr sym _ _ _ _ _ _ _ _ hC.1 hC.2.1 hC.2.2 hC'.1 hC'.2.1 hC'.2.2
        have dk' : ∀ x ∈ d', x < k := fun x hx => dk x (e1.sy.mem irr hx)
        have ll := e1.len irr sym
        have en := nf_eqv irr sym k e1
        refine s_normalizes irr hV hk6 dk' hcm (by omega) (by omega) (by decide) (fun md g hm => ?_)
        rw [← en] at hm ⊢
        refine s_stores hm (by omega) ht (fun v' hv' hfr => ?_)
        apply hQ
        exact REL.word hS0 hA0 hB0 ht (by omega) (nf_lt dk) hl2 hv' hfr
      · refine s_word hw ?_
        (first | refine br_t (by decide) ?_ | refine br_f (by decide) ?_ | refine br_t' (by decide) ?_ | refine br_f' (by decide) ?_)
        refine s_word ho ?_
        (first | refine br_t (by decide) ?_ | refine br_f (by decide) ?_ | refine br_t' (by decide) ?_ | refine br_f' (by decide) ?_)
        refine s_wordN hx ?_
        (first | refine br_t (by decide) ?_ | refine br_f (by decide) ?_ | refine br_t' (by decide) ?_ | refine br_f' (by decide) ?_)
        apply hK
        intro Q hQ
        unfold wp_X11_commonPrefix
        refine s_isWord hw ?_
        (first | refine br_t (by decide) ?_ | refine br_f (by decide) ?_ | refine br_t' (by decide) ?_ | refine br_f' (by decide) ?_)
        refine s_isWord ho ?_
        (first | refine br_t (by decide) ?_ | refine br_f (by decide) ?_ | refine br_t' (by decide) ?_ | refine br_f' (by decide) ?_)
        refine s_isWordN hx ?_
        (first | refine br_t (by decide) ?_ | refine br_f (by decide) ?_ | refine br_t' (by decide) ?_ | refine br_f' (by decide) ?_)
        first | (apply hQ; done) | (apply hQ; exact hR0)
    · refine s_word hw ?_
      (first | refine br_t (by decide) ?_ | refine br_f (by decide) ?_ | refine br_t' (by decide) ?_ | refine br_f' (by decide) ?_)
      refine s_wordN hx ?_
      (first | refine br_t (by decide) ?_ | refine br_f (by decide) ?_ | refine br_t' (by decide) ?_ | refine br_f' (by decide) ?_)
      apply hK
      intro Q hQ
      unfold wp_X11_commonPrefix
      refine s_isWord hw ?_
      (first | refine br_t (by decide) ?_ | refine br_f (by decide) ?_ | refine br_t' (by decide) ?_ | refine br_f' (by decide) ?_)
      refine s_isWordN hx ?_
      (first | refine br_t (by decide) ?_ | refine br_f (by decide) ?_ | refine br_t' (by decide) ?_ | refine br_f' (by decide) ?_)
      first | (apply hQ; done) | (apply hQ; exact hR0)
  · refine s_wordN hx ?_
    (first | refine br_t (by decide) ?_ | refine br_f (by decide) ?_ | refine br_t' (by decide) ?_ | refine br_f' (by decide) ?_)
    apply hK
    intro Q hQ
    unfold wp_X11_commonPrefix
    refine s_isWordN hx ?_
    (first | refine br_t (by decide) ?_ | refine br_f (by decide) ?_ | refine br_t' (by decide) ?_ | refine br_f' (by decide) ?_)
    first | (apply hQ; done) | (apply hQ; exact hR0)
