/-! the class's tree -/
theorem nodes_ok {k : Nat} {tx : List Nat} (hk : k ≤ 6) (h80 : tx.length ≤ 80) (h : OKT k tx) : ∃ ns l, prs tx tx.length = (ns, [l]) ∧ PI k tx.length false 0 ns l [] ∧ nodes tx = (clS ns l).1 ∧ (clS ns l).2.1 = some (topN tx) ∧ stk (nodes tx) (nodes tx).length = some [topN tx] ∧ sgOK k (nodes tx) ∧ (nodes tx).length ≤ 159 ∧ ns.length + (vals [l]).length ≤ 160 := by
  obtain ⟨ns, l, ls, e, hP⟩ := PI_all hk h
  have hls : ls = [] := List.length_eq_zero_iff.mp hP.1
  subst hls
  have hit : l.2.2 ≠ none := fun q => by have := hP.2.1.mpr q; cases this
  have en : nodes tx = (clS ns l).1 := by unfold nodes; rw [e]
  have hsome := clS_some (ns := ns) hit
  have et : (clS ns l).2.1 = some (topN tx) := by
    unfold topN
    rw [e]
    cases hc : (clS ns l).2.1 with
    | none => exact absurd hc hsome
    | some t => simp [hc]
  have p8 := hP.2.2.2.2.2.2.2.1
  have hv : vals [l] = l.2.2.toList ++ (l.2.1.toList ++ (l.1.toList ++ [])) := by rw [vals]; simp [vals]
  rw [hv] at p8
  have sst := clS_stk (l := l) p8
  have sl := clS_len ns l
  have v1 := vals_len l []
  have p6 := hP.2.2.2.2.2.1
  have ssg : sgOK k (clS ns l).1 := jn_sg (Or.inr rfl) (jn_sg (Or.inl rfl) hP.2.2.2.2.2.2.2.2 _ _) _ _
  refine ⟨ns, l, e, hP, en, et, by rw [en, sst, et]; rfl, by rw [en]; exact ssg, ?_, by omega⟩
  rw [et] at sl
  simp only [Option.toList_some, List.length_singleton] at sl
  rw [en]
  have v0 : (vals ([] : List LV)).length = 0 := rfl
  omega
def oI : Option Nat → Int32
  | none => -1
  | some a => nI a
def kcd (sg : Nat) : Nat := if sg < 10 then 1 else if sg = 10 then 0 else if sg = 11 then 3 else if sg = 12 then 2 else 4
def lcd (nd : ND) : Int32 := if nd.1 < 10 then nI nd.1 else if nd.1 = 10 then -1 else nI nd.2.1
def rcd (nd : ND) : Int32 := if nd.1 = 11 ∨ nd.1 = 12 then nI nd.2.2 else -1
def NDR (kd lf rt : Nat → Int32) (ns : List ND) : Prop := ∀ j, j < ns.length → kd j = nI (kcd (ndAt ns j).1) ∧ lf j = lcd (ndAt ns j) ∧ rt j = rcd (ndAt ns j)
def LVR (sm pr it : Nat → Int32) : List LV → Prop
  | [] => True
  | l :: ls => sm ls.length = oI l.1 ∧ pr ls.length = oI l.2.1 ∧ it ls.length = oI l.2.2 ∧ LVR sm pr it ls
theorem LVR_cong {sm pr it sm' pr' it' : Nat → Int32} : ∀ {ls : List LV}, (∀ j, j < ls.length → sm' j = sm j ∧ pr' j = pr j ∧ it' j = it j) → LVR sm pr it ls → LVR sm' pr' it' ls
  | [], _, _ => trivial
  | l :: ls, h, hl => by
    obtain ⟨a, b, c, d⟩ := hl
    have h0 := h ls.length (by simp)
    exact ⟨by rw [h0.1]; exact a, by rw [h0.2.1]; exact b, by rw [h0.2.2]; exact c, LVR_cong (fun j hj => h j (by simp; omega)) d⟩
theorem s_addNode {kd lf rt : Nat → Int32} {ns : List ND} (h : NDR kd lf rt ns) (hl : ns.length < 160) (nd : ND) {kc lc rc : Int32} (e1 : kc = nI (kcd nd.1)) (e2 : lc = lcd nd) (e3 : rc = rcd nd) {K : Int32 → Int32 → (Nat → Int32) → (Nat → Int32) → (Nat → Int32) → Prop} (hK : ∀ kd' lf' rt', NDR kd' lf' rt' (ns ++ [nd]) → K (nI ns.length) (nI (ns ++ [nd]).length) kd' lf' rt') : wp_X8_addNode (nI ns.length) kd lf rt kc lc rc K := by
  have len : (ns ++ [nd]).length = ns.length + 1 := by simp
  unfold wp_X8_addNode
  try simp (disch := omega) only [k_0, k_1, k_2, k_3, k_4, k_6, k_7, k_10, k_11, k_12, k_13, k_14, k_16, k_32, k_36, k_40, k_41, k_42, k_43, k_49, k_64, k_80, k_96, k_97, k_100, k_109, k_110, k_127, k_128, k_146, k_147, k_160, k_2304, k_4608, k_13824, nI_add, pk_mul, pk_sub, nI_clamp, q_in, nI_ltI, nI_leI, nI_eq, forall_eq, e_shl, e_bit, e_b0, e_b1, e_bn, e_andn, fa_or, fa_and, e_m1, e_nneg]
  repeat (first | refine And.intro (fun hh => absurd hh (by omega)) (fun _ => ?_) | refine And.intro (fun _ => ?_) (fun hh => absurd hh (by omega)) | refine And.intro (by omega) ?_)
  rw [show ns.length + 1 - 1 = ns.length by omega, ← len]
  refine hK _ _ _ (fun j hj => ?_)
  rw [len] at hj
  by_cases e : j = ns.length
  · subst e
    rw [pk_us, pk_us, pk_us, ndAt_last]
    exact ⟨e1, e2, e3⟩
  · rw [pk_un e, pk_un e, pk_un e, ndAt_app (by omega)]
    exact h j (by omega)
theorem s_join8 {kd lf rt : Nat → Int32} {ns : List ND} (h : NDR kd lf rt ns) {sg : Nat} (hsg : sg = 11 ∨ sg = 12) {kc : Int32} (hkc : kc = nI (kcd sg)) {a b : Option Nat} (ha : oB ns.length a) (hb : oB ns.length b) (hl : ns.length ≤ 160) (hroom : a ≠ none → b ≠ none → ns.length < 160) {K : Int32 → Int32 → (Nat → Int32) → (Nat → Int32) → (Nat → Int32) → Prop} (hK : ∀ kd' lf' rt', NDR kd' lf' rt' (jn sg ns a b).1 → K (oI (jn sg ns a b).2) (nI (jn sg ns a b).1.length) kd' lf' rt') : wp_X8_join (nI ns.length) kd lf rt kc (oI a) (oI b) K := by
  unfold wp_X8_join
  cases a with
  | none => exact br_t' rfl (hK _ _ _ h)
  | some a =>
    have ha2 := ha a rfl
    refine br_f' (by show ¬ nI a = -1; rw [q_m1 (by omega)]; exact id) ?_
    cases b with
    | none => exact br_t' rfl (hK _ _ _ h)
    | some b =>
      have hb2 := hb b rfl
      refine br_f' (by show ¬ nI b = -1; rw [q_m1 (by omega)]; exact id) ?_
      refine s_addNode h (hroom (by simp) (by simp)) (sg, a, b) hkc ?_ ?_ hK
      · unfold lcd
        rw [if_neg (by rcases hsg with q | q <;> simp [q]), if_neg (by rcases hsg with q | q <;> simp [q])]
        rfl
      · unfold rcd
        rw [if_pos hsg]
        rfl
theorem s_isLevel {d : Nat} (h : d ≤ 80) {K : Int32 → Prop} (hK : K 1) : wp_X8_isLevel (nI d) K := by
  unfold wp_X8_isLevel
  try simp (disch := omega) only [k_0, k_1, k_2, k_3, k_4, k_6, k_7, k_10, k_11, k_12, k_13, k_14, k_16, k_32, k_36, k_40, k_41, k_42, k_43, k_49, k_64, k_80, k_96, k_97, k_100, k_109, k_110, k_127, k_128, k_146, k_147, k_160, k_2304, k_4608, k_13824, nI_add, pk_mul, pk_sub, nI_clamp, q_in, nI_ltI, nI_leI, nI_eq, forall_eq, e_shl, e_bit, e_b0, e_b1, e_bn, e_andn, fa_or, fa_and, e_m1, e_nneg]
  repeat (first | refine And.intro (fun hh => absurd hh (by omega)) (fun _ => ?_) | refine And.intro (fun _ => ?_) (fun hh => absurd hh (by omega)) | refine And.intro (by omega) ?_)
  exact hK
theorem s_closeP {kd lf rt sm pr it : Nat → Int32} {ns : List ND} {l : LV} {ls : List LV} (h : NDR kd lf rt ns) (hL : LVR sm pr it (l :: ls)) (hd : ls.length ≤ 80) (h1 : oB ns.length l.2.1) (h2 : oB ns.length l.2.2) (hl : ns.length ≤ 160) (hroom : l.2.1 ≠ none → l.2.2 ≠ none → ns.length < 160) {K : Int32 → (Nat → Int32) → (Nat → Int32) → (Nat → Int32) → (Nat → Int32) → (Nat → Int32) → Prop} (hK : ∀ kd' lf' rt' pr' it', NDR kd' lf' rt' (clP ns l).1 → LVR sm pr' it' ((clP ns l).2 :: ls) → K (nI (clP ns l).1.length) kd' lf' rt' pr' it') : wp_X8_closeProduct (nI ns.length) (nI ls.length) kd lf rt pr it K := by
  obtain ⟨a, b, c, d⟩ := hL
  unfold wp_X8_closeProduct
  refine s_isLevel hd (br_f (by decide) ?_)
  have e1 : (nI ls.length).toNatClampNeg = ls.length := nI_clamp (by omega)
  have e2 : vp_in (nI ls.length) 81 := (q_in (by omega)).mpr (by omega)
  rw [e1, b, c]
  refine ⟨e2, e2, s_join8 h (Or.inl rfl) rfl h1 h2 hl hroom (fun kd' lf' rt' hN => ⟨e2, e2, hK _ _ _ _ _ hN ⟨a, pk_us, pk_us, LVR_cong (fun j hj => ⟨rfl, pk_un (by omega), pk_un (by omega)⟩) d⟩⟩)⟩
theorem s_closeS {kd lf rt sm pr it : Nat → Int32} {ns : List ND} {l : LV} {ls : List LV} (h : NDR kd lf rt ns) (hL : LVR sm pr it (l :: ls)) (hd : ls.length ≤ 80) (h0 : oB ns.length l.1) (h1 : oB ns.length l.2.1) (h2 : oB ns.length l.2.2) (hl : ns.length + (vals (l :: ls)).length ≤ 160) {K : Int32 → Int32 → (Nat → Int32) → (Nat → Int32) → (Nat → Int32) → (Nat → Int32) → (Nat → Int32) → (Nat → Int32) → Prop} (hK : ∀ kd' lf' rt' sm' pr' it', NDR kd' lf' rt' (clS ns l).1 → LVR sm' pr' it' ((clS ns l).2 :: ls) → K (oI (clS ns l).2.1) (nI (clS ns l).1.length) kd' lf' rt' sm' pr' it') : wp_X8_closeSum (nI ns.length) (nI ls.length) kd lf rt sm pr it K := by
  have v1 := vals_len l ls
  have cl := clP_len ns l
  have o2 := opt_len (a := (clP ns l).2.2.1)
  unfold wp_X8_closeSum
  refine s_isLevel hd (br_f' (by decide) (s_closeP h hL hd h1 h2 (by omega) (fun q1 q2 => by have := opt_some q1; have := opt_some q2; omega) (fun kd' lf' rt' pr' it' hN hL' => ?_)))
  obtain ⟨a, b, c, d⟩ := hL'
  have e1 : (nI ls.length).toNatClampNeg = ls.length := nI_clamp (by omega)
  have e2 : vp_in (nI ls.length) 81 := (q_in (by omega)).mpr (by omega)
  have e3 : (clP ns l).2.1 = l.1 := rfl
  rw [e1, a, b, e3]
  refine ⟨e2, e2, s_join8 hN (Or.inr rfl) rfl (h0.mono (clP_le ns l)) (clP_oB h1 h2) (by omega) (fun q1 q2 => by have := opt_some q1; have := opt_some q2; omega) (fun kd2 lf2 rt2 hN2 => ⟨e2, e2, e2, ?_⟩)⟩
  rw [pk_us]
  exact hK _ _ _ _ _ _ hN2 ⟨pk_us, pk_us, c, LVR_cong (fun j hj => ⟨pk_un (by omega), pk_un (by omega), rfl⟩) d⟩
theorem s_putItem {sm pr it : Nat → Int32} {l : LV} {ls : List LV} {x : Int32} (hL : LVR sm pr it (l :: ls)) (hd : ls.length ≤ 80) {y : Option Nat} (hx : x = oI y) {K : (Nat → Int32) → Prop} (hK : ∀ it', LVR sm pr it' ((l.1, l.2.1, y) :: ls) → K it') : wp_X8_putItem (nI ls.length) it x K := by
  obtain ⟨a, b, c, d⟩ := hL
  unfold wp_X8_putItem
  refine s_isLevel hd (br_f (by decide) ⟨(q_in (by omega)).mpr (by omega), ?_⟩)
  rw [nI_clamp (by omega), hx]
  exact hK _ ⟨a, b, pk_us, LVR_cong (fun j hj => ⟨rfl, rfl, pk_un (by omega)⟩) d⟩
theorem s_plantSign {kd lf rt sm pr it : Nat → Int32} {k i : Nat} {nd : Bool} {d : Nat} {ns : List ND} {l : LV} {ls : List LV} {c : Nat} (hk : k ≤ 6) (hi : i < 80) (hc : c < 128) (h : NDR kd lf rt ns) (hL : LVR sm pr it (l :: ls)) (hP : PI k i nd d ns l ls) {nd' : Bool} {d' : Nat} (hf : fstep k nd d c = some (nd', d')) (hdi : d ≤ i) {K : Int32 → Int32 → (Nat → Int32) → (Nat → Int32) → (Nat → Int32) → (Nat → Int32) → (Nat → Int32) → (Nat → Int32) → Prop} (hK : ∀ ns' l' ls' kd' lf' rt' sm' pr' it', pstep c ns l ls = (ns', l' :: ls') → NDR kd' lf' rt' ns' → LVR sm' pr' it' (l' :: ls') → K (nI ns'.length) (nI ls'.length) kd' lf' rt' sm' pr' it') : wp_X8_plantSign (nI ns.length) (nI ls.length) kd lf rt sm pr it (nI c) K := by
  obtain ⟨p1, p2, p3, p4, p5, p6, p7, p8, p9⟩ := hP
  have q0 := p5 l List.mem_cons_self
  have v1 := vals_len l ls
  have cl := clP_len ns l
  have o1 := opt_len (a := (clP ns l).2.2.1)
  have room : l.2.1 ≠ none → l.2.2 ≠ none → ns.length < 160 := fun q1 q2 => by
    have := opt_some q1
    have := opt_some q2
    omega
  have hd : ls.length ≤ 80 := by omega
  have atom : ∀ (sg : Nat) (kc lc : Int32), kc = nI (kcd sg) → lc = lcd (sg, 0, 0) → (sg < k ∨ sg = 10) → pstep c ns l ls = ((clP ns l).1 ++ [(sg, 0, 0)], (l.1, (clP ns l).2.2.1, some (clP ns l).1.length) :: ls) → wp_X8_closeProduct (nI ns.length) (nI ls.length) kd lf rt pr it (fun t_size_46 t_kind_47 t_left_48 t_right_49 t_products_50 t_items_51 => wp_X8_addNode t_size_46 t_kind_47 t_left_48 t_right_49 kc lc (-1) (fun r_52 t_size_53 t_kind_54 t_left_55 t_right_56 => wp_X8_putItem (nI ls.length) t_items_51 r_52 (fun t_items_57 => K t_size_53 (nI ls.length) t_kind_54 t_left_55 t_right_56 sm t_products_50 t_items_57))) := by
    intro sg kc lc hkc hlc hsg hps
    refine s_closeP h hL hd q0.2.1 q0.2.2 (by omega) room (fun kd' lf' rt' pr' it' hN hL' => ?_)
    refine s_addNode hN (by omega) (sg, 0, 0) hkc hlc ?_ (fun kd2 lf2 rt2 hN2 => ?_)
    · unfold rcd
      rw [if_neg (by show ¬ (sg = 11 ∨ sg = 12); omega)]
    · exact s_putItem hL' hd rfl (fun it2 hL2 => hK _ _ _ _ _ _ _ _ _ hps hN2 hL2)
  unfold wp_X8_plantSign
  try simp (disch := omega) only [k_0, k_1, k_2, k_3, k_4, k_6, k_7, k_10, k_11, k_12, k_13, k_14, k_16, k_32, k_36, k_40, k_41, k_42, k_43, k_49, k_64, k_80, k_96, k_97, k_100, k_109, k_110, k_127, k_128, k_146, k_147, k_160, k_2304, k_4608, k_13824, nI_add, pk_mul, pk_sub, nI_clamp, q_in, nI_ltI, nI_leI, nI_eq, forall_eq, e_shl, e_bit, e_b0, e_b1, e_bn, e_andn, fa_or, fa_and, e_m1, e_nneg]
  unfold fstep at hf
  by_cases hLt : c = 49 ∨ (97 ≤ c ∧ c < 97 + k)
  · refine ⟨fun e => by omega, fun e => by omega, fun e => by omega, fun e => by omega, fun e => ?_, fun _ _ _ _ e => ?_⟩
    · refine atom 10 _ _ rfl rfl (Or.inr rfl) ?_
      unfold pstep
      rw [if_neg (by omega), if_neg (by omega), if_neg (by omega), if_neg (by omega), if_pos e]
    · refine atom (c - 97) _ _ ?_ ?_ (Or.inl (by omega)) ?_
      · unfold kcd
        rw [if_pos (by omega)]
      · unfold lcd
        rw [if_pos (by show c - 97 < 10; omega), pk_sub (by omega)]
      · unfold pstep
        rw [if_neg (by omega), if_neg (by omega), if_neg (by omega), if_neg (by omega), if_neg e]
  · rw [if_neg hLt] at hf
    by_cases h40 : c = 40
    · refine ⟨fun _ => ?_, fun e => by omega, fun e => by omega, fun e => by omega, fun e => by omega, fun e => absurd h40 e⟩
      refine s_closeP h hL hd q0.2.1 q0.2.2 (by omega) room (fun kd' lf' rt' pr' it' hN hL' => ?_)
      unfold wp_X8_openLevel
      refine s_isLevel (d := ls.length + 1) (by omega) (br_f (by decide) ?_)
      try simp (disch := omega) only [k_0, k_1, k_2, k_3, k_4, k_6, k_7, k_10, k_11, k_12, k_13, k_14, k_16, k_32, k_36, k_40, k_41, k_42, k_43, k_49, k_64, k_80, k_96, k_97, k_100, k_109, k_110, k_127, k_128, k_146, k_147, k_160, k_2304, k_4608, k_13824, nI_add, pk_mul, pk_sub, nI_clamp, q_in, nI_ltI, nI_leI, nI_eq, forall_eq, e_shl, e_bit, e_b0, e_b1, e_bn, e_andn, fa_or, fa_and, e_m1, e_nneg]
      refine ⟨by omega, by omega, by omega, ?_⟩
      have e9 : ls.length + 1 = ((clP ns l).2 :: ls).length := rfl
      rw [e9]
      refine hK _ _ _ _ _ _ _ _ _ (by unfold pstep; rw [if_pos h40]) hN ⟨pk_us, pk_us, pk_us, LVR_cong (fun j hj => ⟨pk_un (by omega), pk_un (by omega), pk_un (by omega)⟩) hL'⟩
    · rw [if_neg h40] at hf
      have hnd : ¬ nd = true := fun q => by rw [if_pos q] at hf; cases hf
      have hit : l.2.2 ≠ none := fun q => hnd (p2.mpr q)
      have o3 := opt_some hit
      rw [if_neg hnd] at hf
      by_cases h43 : c = 43
      · refine ⟨fun e => by omega, fun e => by omega, fun e => by omega, fun _ => ?_, fun e => by omega, fun _ _ _ e => absurd h43 e⟩
        refine s_closeS h hL hd q0.1 q0.2.1 q0.2.2 (by omega) (fun kd' lf' rt' sm' pr' it' hN hL' => ?_)
        exact hK _ _ _ _ _ _ _ _ _ (by unfold pstep; rw [if_neg h40, if_neg (by omega), if_neg (by omega), if_pos h43]) hN hL'
      · rw [if_neg h43] at hf
        by_cases h41 : c = 41 ∧ 0 < d
        · refine ⟨fun e => by omega, fun _ => ?_, fun e => by omega, fun e => by omega, fun e => by omega, fun _ e => absurd h41.1 e⟩
          refine s_closeS h hL hd q0.1 q0.2.1 q0.2.2 (by omega) (fun kd' lf' rt' sm' pr' it' hN hL' => ?_)
          cases ls with
          | nil => simp at p1; omega
          | cons m ms =>
            obtain ⟨-, -, -, hL2⟩ := hL'
            have e9 : nI (m :: ms).length - 1 = nI ms.length := nI_pred ms.length
            have hdm : ms.length ≤ 80 := by simp at hd; omega
            rw [k_1] at e9
            rw [e9]
            exact s_putItem hL2 hdm rfl (fun it2 hL3 => hK _ _ _ _ _ _ _ _ _ (by unfold pstep; rw [if_neg h40, if_pos h41.1]) hN hL3)
        · rw [if_neg h41] at hf
          have h42 : c = 42 := by
            apply Classical.byContradiction
            intro q
            rw [if_neg q] at hf
            cases hf
          refine ⟨fun e => by omega, fun e => by omega, fun _ => ?_, fun e => by omega, fun e => by omega, fun _ _ e => absurd h42 e⟩
          obtain ⟨a, b, c', dd⟩ := hL
          unfold wp_X8_getItem
          refine s_isLevel hd (br_f (by decide) ⟨(q_in (by omega)).mpr (by omega), ?_⟩)
          rw [nI_clamp (by omega), c']
          cases h3 : l.2.2 with
          | none => exact absurd h3 hit
          | some x =>
            refine s_addNode h (by omega) (13, x, 0) rfl rfl rfl (fun kd2 lf2 rt2 hN2 => ?_)
            exact s_putItem ⟨a, b, c', dd⟩ hd rfl (fun it2 hL2 => hK _ _ _ _ _ _ _ _ _ (by unfold pstep; rw [if_neg h40, if_neg (by omega), if_pos h42, h3]) hN2 hL2)
/-! the smallest lengths -/
theorem stk_lt {ns : List ND} : ∀ {j : Nat} {S : List Nat}, stk ns j = some S → ∀ a ∈ S, a < j
  | 0, S, h, a, ha => by cases h; exact absurd ha List.not_mem_nil
  | j + 1, S, h, a, ha => by
    cases hp : stk ns j with
    | none => rw [stk, hp] at h; cases h
    | some S0 =>
      have ih := stk_lt hp
      rw [stk, hp] at h
      have h' : stepS j (ndAt ns j) S0 = some S := h
      unfold stepS at h'
      split at h'
      · cases h'
        rcases List.mem_cons.mp ha with q | q
        · omega
        · have := ih a q; omega
      · split at h'
        · cases S0 with
          | nil => cases h'
          | cons b S1 =>
            have h2 : (if b = (ndAt ns j).2.1 then some (j :: S1) else none) = some S := h'
            split at h2
            · cases h2
              rcases List.mem_cons.mp ha with q | q
              · omega
              · have := ih a (List.mem_cons_of_mem _ q); omega
            · cases h2
        · cases S0 with
          | nil => cases h'
          | cons b S1 =>
            cases S1 with
            | nil => cases h'
            | cons a1 S2 =>
              have h2 : (if a1 = (ndAt ns j).2.1 ∧ b = (ndAt ns j).2.2 then some (j :: S2) else none) = some S := h'
              split at h2
              · cases h2
                rcases List.mem_cons.mp ha with q | q
                · omega
                · have := ih a (List.mem_cons_of_mem _ (List.mem_cons_of_mem _ q)); omega
              · cases h2
/-- the stack before a node, by its kind -/
theorem stk_node {ns : List ND} {j : Nat} {S' : List Nat} (h : stk ns (j + 1) = some S') : ∃ S, stk ns j = some S ∧ (((ndAt ns j).1 < 11 ∧ S' = j :: S) ∨ ((ndAt ns j).1 = 13 ∧ ∃ T, S = (ndAt ns j).2.1 :: T ∧ S' = j :: T) ∨ (11 ≤ (ndAt ns j).1 ∧ (ndAt ns j).1 ≠ 13 ∧ ∃ T, S = (ndAt ns j).2.2 :: (ndAt ns j).2.1 :: T ∧ S' = j :: T)) := by
  cases hp : stk ns j with
  | none => rw [stk, hp] at h; cases h
  | some S0 =>
    refine ⟨S0, rfl, ?_⟩
    rw [stk, hp] at h
    have h' : stepS j (ndAt ns j) S0 = some S' := h
    unfold stepS at h'
    split at h'
    · rename_i e
      cases h'
      exact Or.inl ⟨e, rfl⟩
    · rename_i e0
      split at h'
      · rename_i e
        cases S0 with
        | nil => cases h'
        | cons b S1 =>
          have h2 : (if b = (ndAt ns j).2.1 then some (j :: S1) else none) = some S' := h'
          split at h2
          · rename_i eb
            cases h2
            exact Or.inr (Or.inl ⟨e, S1, by rw [eb], rfl⟩)
          · cases h2
      · rename_i e
        cases S0 with
        | nil => cases h'
        | cons b S1 =>
          cases S1 with
          | nil => cases h'
          | cons a1 S2 =>
            have h2 : (if a1 = (ndAt ns j).2.1 ∧ b = (ndAt ns j).2.2 then some (j :: S2) else none) = some S' := h'
            split at h2
            · rename_i eb
              cases h2
              exact Or.inr (Or.inr ⟨by omega, e, S2, by rw [eb.1, eb.2], rfl⟩)
            · cases h2
theorem stk_pre {ns : List ND} : ∀ {n : Nat} {S : List Nat}, stk ns n = some S → ∀ j, j ≤ n → ∃ S', stk ns j = some S'
  | 0, S, h, j, hj => ⟨S, by rw [show j = 0 by omega]; exact h⟩
  | n + 1, S, h, j, hj => by
    by_cases e : j = n + 1
    · exact ⟨S, by rw [e]; exact h⟩
    · obtain ⟨S0, h0, -⟩ := stk_node h
      exact stk_pre h0 j (by omega)
def lval (nd : ND) (f : Nat → Nat) : Nat := if nd.1 < 10 then 1 else if nd.1 = 12 then (if f nd.2.2 < f nd.2.1 then f nd.2.2 else f nd.2.1) else if nd.1 = 11 then f nd.2.1 + f nd.2.2 else 0
def LT (ns : List ND) : Nat → Nat → Nat
  | 0 => fun _ => 0
  | j + 1 => fun a => if a = j then lval (ndAt ns j) (LT ns j) else LT ns j a
theorem LT_s (ns : List ND) (j a : Nat) : LT ns (j + 1) a = if a = j then lval (ndAt ns j) (LT ns j) else LT ns j a := rfl
theorem LT_old {ns : List ND} {j a : Nat} (h : a < j) : ∀ d, LT ns (j + d) a = LT ns j a
  | 0 => rfl
  | d + 1 => by rw [← Nat.add_assoc, LT_s, if_neg (by omega), LT_old h d]
def sumS (f : Nat → Nat) : List Nat → Nat
  | [] => 0
  | a :: S => f a + sumS f S
theorem sumS_cong {f g : Nat → Nat} : ∀ {S : List Nat}, (∀ a ∈ S, f a = g a) → sumS f S = sumS g S
  | [], _ => rfl
  | a :: S, h => by rw [sumS, sumS, h a List.mem_cons_self, sumS_cong (fun b hb => h b (List.mem_cons_of_mem _ hb))]
theorem LT_sum {ns : List ND} : ∀ {j : Nat} {S : List Nat}, stk ns j = some S → sumS (LT ns j) S ≤ j
  | 0, S, h => by cases h; exact Nat.le_refl _
  | j + 1, S', h => by
    obtain ⟨S, hS, hc⟩ := stk_node h
    have ih := LT_sum hS
    have hlt := stk_lt hS
    have old : ∀ T : List Nat, (∀ a ∈ T, a < j) → sumS (LT ns (j + 1)) T = sumS (LT ns j) T := fun T hT => sumS_cong (fun a ha => by rw [LT_s, if_neg (by have := hT a ha; omega)])
    have new : LT ns (j + 1) j = lval (ndAt ns j) (LT ns j) := by rw [LT_s, if_pos rfl]
    rcases hc with ⟨e, rfl⟩ | ⟨e, T, rfl, rfl⟩ | ⟨e, e2, T, rfl, rfl⟩
    · rw [sumS, new, old S hlt]
      unfold lval
      split
      · omega
      · rw [if_neg (by omega), if_neg (by omega)]
        omega
    · rw [sumS, new, old T (fun a ha => hlt a (List.mem_cons_of_mem _ ha))]
      rw [sumS] at ih
      unfold lval
      rw [if_neg (by omega), if_neg (by omega), if_neg (by omega)]
      omega
    · rw [sumS, new, old T (fun a ha => hlt a (List.mem_cons_of_mem _ (List.mem_cons_of_mem _ ha)))]
      rw [sumS, sumS] at ih
      unfold lval
      split
      · omega
      · split
        · split <;> omega
        · split <;> omega
theorem s_isNode {N x : Nat} (hN : N ≤ 160) (hx : x < N) {K : Int32 → Prop} (hK : K 1) : wp_X8_isNode (nI N) (nI x) K := by
  unfold wp_X8_isNode
  try simp (disch := omega) only [k_0, k_1, k_2, k_3, k_4, k_6, k_7, k_10, k_11, k_12, k_13, k_14, k_16, k_32, k_36, k_40, k_41, k_42, k_43, k_49, k_64, k_80, k_96, k_97, k_100, k_109, k_110, k_127, k_128, k_146, k_147, k_160, k_2304, k_4608, k_13824, nI_add, pk_mul, pk_sub, nI_clamp, q_in, nI_ltI, nI_leI, nI_eq, forall_eq, e_shl, e_bit, e_b0, e_b1, e_bn, e_andn, fa_or, fa_and, e_m1, e_nneg]
  repeat (first | refine And.intro (fun hh => absurd hh (by omega)) (fun _ => ?_) | refine And.intro (fun _ => ?_) (fun hh => absurd hh (by omega)) | refine And.intro (by omega) ?_)
  exact hK
theorem s_leastOf {le : Nat → Int32} {N x v : Nat} (hN : N ≤ 160) (hx : x < N) (h : le x = nI v) {K : Int32 → Prop} (hK : K (nI v)) : wp_X8_leastOf (nI N) le (nI x) K := by
  unfold wp_X8_leastOf
  refine s_isNode hN hx (br_f (by decide) ⟨(q_in (by omega)).mpr (by omega), ?_⟩)
  rw [nI_clamp (by omega), h]
  exact hK
theorem s_plant {tS tT tD : Int32} {kd lf rt le sm pr it by1 : Nat → Int32} {tx : List Nat} {k : Nat} (hk : k ≤ 6) (h80 : tx.length ≤ 80) (h128 : ∀ b ∈ tx, b < 128) (hb : RW by1 tx) {K : Int32 → Int32 → Int32 → Int32 → (Nat → Int32) → (Nat → Int32) → (Nat → Int32) → (Nat → Int32) → (Nat → Int32) → (Nat → Int32) → (Nat → Int32) → Prop} (h1 : OKT k tx → ∀ d kd lf rt le sm pr it, NDR kd lf rt (nodes tx) → (∀ j, j < (nodes tx).length → le j = nI (LT (nodes tx) (nodes tx).length j)) → K 1 (nI (nodes tx).length) (nI (topN tx)) d kd lf rt le sm pr it) (h0 : ¬ OKT k tx → K 0 tS tT tD kd lf rt le sm pr it) : wp_X8_plant tS tT tD kd lf rt le sm pr it (nI tx.length) by1 (nI k) K := by
  unfold wp_X8_plant
  refine s_faultAt hk h80 h128 hb (fun r hr => ⟨fun e => ?_, fun e => h0 (fun hok => ?_)⟩)
  · rw [e] at hr
    have hok := hr.ok h80
    unfold wp_X8_openLevel
    refine s_isLevel (d := 0) (by decide) (br_f (by decide) ⟨(q_in (n := 0) (by decide)).mpr (by decide), (q_in (n := 0) (by decide)).mpr (by decide), (q_in (n := 0) (by decide)).mpr (by decide), ?_⟩)
    have mono : ∀ i, i ≤ tx.length → ∃ nd d, fs k tx i = some (nd, d) := by
      intro i hi
      cases hf : fs k tx i with
      | none =>
        have := fs_none hf (tx.length - i)
        rw [show i + (tx.length - i) = tx.length by omega] at this
        unfold OKT at hok
        rw [this] at hok
        cases hok
      | some s => exact ⟨s.1, s.2, rfl⟩
    refine for_X8_plant_L27 _ _ _ (tx.length) (fun i sz dp kd lf rt sm pr it => ∃ ns l ls, prs tx i = (ns, l :: ls) ∧ sz = nI ns.length ∧ dp = nI ls.length ∧ NDR kd lf rt ns ∧ LVR sm pr it (l :: ls)) ?_ ?_ (0) _ _ _ _ _ _ _ _ _ rfl (Nat.zero_le _) (⟨[], (none, none, none), [], rfl, rfl, rfl, fun j hj => absurd hj (Nat.not_lt_zero _), ⟨pk_us, pk_us, pk_us, trivial⟩⟩)
    · rintro again i sz dp kd lf rt sm pr it hi ⟨ns, l, ls, e1, rfl, rfl, hN, hL⟩ hag
      obtain ⟨nd, d, hs⟩ := mono i (by omega)
      obtain ⟨nd', d', hs'⟩ := mono (i + 1) (by omega)
      obtain ⟨ns2, l2, ls2, e2, hP⟩ := PI_all hk hs
      rw [e1] at e2
      cases e2
      rw [fs_s hs] at hs'
      unfold wp_X8_plant_L27
      try simp (disch := omega) only [k_0, k_1, k_2, k_3, k_4, k_6, k_7, k_10, k_11, k_12, k_13, k_14, k_16, k_32, k_36, k_40, k_41, k_42, k_43, k_49, k_64, k_80, k_96, k_97, k_100, k_109, k_110, k_127, k_128, k_146, k_147, k_160, k_2304, k_4608, k_13824, nI_add, pk_mul, pk_sub, nI_clamp, q_in, nI_ltI, nI_leI, nI_eq, forall_eq, e_shl, e_bit, e_b0, e_b1, e_bn, e_andn, fa_or, fa_and, e_m1, e_nneg]
      repeat (first | refine And.intro (fun hh => absurd hh (by omega)) (fun _ => ?_) | refine And.intro (fun _ => ?_) (fun hh => absurd hh (by omega)) | refine And.intro (by omega) ?_)
      refine s_tat h80 hb hi (s_plantSign hk (by omega) (h128 _ (getD_mem hi)) hN hL hP hs' (fs_le hs) (fun ns' l' ls' kd' lf' rt' sm' pr' it' hps hN' hL' => ?_))
      try simp (disch := omega) only [k_0, k_1, k_2, k_3, k_4, k_6, k_7, k_10, k_11, k_12, k_13, k_14, k_16, k_32, k_36, k_40, k_41, k_42, k_43, k_49, k_64, k_80, k_96, k_97, k_100, k_109, k_110, k_127, k_128, k_146, k_147, k_160, k_2304, k_4608, k_13824, nI_add, pk_mul, pk_sub, nI_clamp, q_in, nI_ltI, nI_leI, nI_eq, forall_eq, e_shl, e_bit, e_b0, e_b1, e_bn, e_andn, fa_or, fa_and, e_m1, e_nneg]
      exact hag _ _ _ _ _ _ _ _ ⟨ns', l', ls', by rw [prs, e1]; exact hps, rfl, rfl, hN', hL'⟩
    · rintro again sz dp kd lf rt sm pr it ⟨ns, l, ls, e1, rfl, rfl, hN, hL⟩
      obtain ⟨ns2, l2, e2, hP, en, et, hst, hsg, hlen, hroom⟩ := nodes_ok hk h80 hok
      rw [e1] at e2
      cases e2
      have q0 := hP.2.2.2.2.1 l List.mem_cons_self
      unfold wp_X8_plant_L27
      try simp (disch := omega) only [k_0, k_1, k_2, k_3, k_4, k_6, k_7, k_10, k_11, k_12, k_13, k_14, k_16, k_32, k_36, k_40, k_41, k_42, k_43, k_49, k_64, k_80, k_96, k_97, k_100, k_109, k_110, k_127, k_128, k_146, k_147, k_160, k_2304, k_4608, k_13824, nI_add, pk_mul, pk_sub, nI_clamp, q_in, nI_ltI, nI_leI, nI_eq, forall_eq, e_shl, e_bit, e_b0, e_b1, e_bn, e_andn, fa_or, fa_and, e_m1, e_nneg]
      repeat (first | refine And.intro (fun hh => absurd hh (by omega)) (fun _ => ?_) | refine And.intro (fun _ => ?_) (fun hh => absurd hh (by omega)) | refine And.intro (by omega) ?_)
      refine s_closeS hN hL (by simp) q0.1 q0.2.1 q0.2.2 hroom (fun kd' lf' rt' sm' pr' it' hN' hL' => ?_)
      rw [← en] at hN' ⊢
      rw [et]
      refine for_X8_plant_L60 _ _ _ _ _ ((nodes tx).length) (fun j le => ∀ a, a < j → le a = nI (LT (nodes tx) j a)) ?_ ?_ (0) _ _ rfl (Nat.zero_le _) (fun a ha => absurd ha (Nat.not_lt_zero _))
      · intro again2 j le hj hJ hag
        obtain ⟨S', hS'⟩ := stk_pre hst (j + 1) hj
        obtain ⟨S, hS, hc⟩ := stk_node hS'
        have hsum := LT_sum hS
        have hlt := stk_lt hS
        obtain ⟨k1, k2, k3⟩ := hN' j hj
        have sgb : (ndAt (nodes tx) j).1 < k ∨ (10 ≤ (ndAt (nodes tx) j).1 ∧ (ndAt (nodes tx) j).1 ≤ 13) := hsg _ (by
          unfold ndAt
          rw [List.getD_eq_getElem?_getD, List.getElem?_eq_getElem hj]
          exact List.getElem_mem hj)
        have fin : ∀ x, x = nI (lval (ndAt (nodes tx) j) (LT (nodes tx) j)) → again2 (nI (j + 1)) (upd le j x) := fun x hx => hag _ (fun a ha => by
          rw [LT_s]
          by_cases e : a = j
          · subst e; rw [pk_us, if_pos rfl, hx]
          · rw [pk_un e, if_neg e]; exact hJ a (by omega))
        unfold wp_X8_plant_L60
        try simp (disch := omega) only [k_0, k_1, k_2, k_3, k_4, k_6, k_7, k_10, k_11, k_12, k_13, k_14, k_16, k_32, k_36, k_40, k_41, k_42, k_43, k_49, k_64, k_80, k_96, k_97, k_100, k_109, k_110, k_127, k_128, k_146, k_147, k_160, k_2304, k_4608, k_13824, nI_add, pk_mul, pk_sub, nI_clamp, q_in, nI_ltI, nI_leI, nI_eq, forall_eq, e_shl, e_bit, e_b0, e_b1, e_bn, e_andn, fa_or, fa_and, e_m1, e_nneg]
        repeat (first | refine And.intro (fun hh => absurd hh (by omega)) (fun _ => ?_) | refine And.intro (fun _ => ?_) (fun hh => absurd hh (by omega)) | refine And.intro (by omega) ?_)
        rw [k1, k2, k3]
        unfold wp_X8_findLeast
        unfold lval at fin
        rcases hc with ⟨e, -⟩ | ⟨e, T, rfl, -⟩ | ⟨e, e3, T, rfl, -⟩
        · by_cases h10 : (ndAt (nodes tx) j).1 < 10
          · have ek : kcd (ndAt (nodes tx) j).1 = 1 := by unfold kcd; rw [if_pos h10]
            rw [ek]
            rw [if_pos h10] at fin
            refine ⟨fun _ => ⟨by omega, fin _ rfl⟩, fun q => absurd q (by decide), fun q => absurd q (by decide), fun q => absurd rfl q⟩
          · have ek : kcd (ndAt (nodes tx) j).1 = 0 := by unfold kcd; rw [if_neg h10, if_pos (by omega)]
            rw [ek]
            rw [if_neg h10, if_neg (by omega), if_neg (by omega)] at fin
            refine ⟨fun q => absurd q (by decide), fun q => absurd q (by decide), fun q => absurd q (by decide), fun _ _ _ => ⟨by omega, fin _ rfl⟩⟩
        · have ek : kcd (ndAt (nodes tx) j).1 = 4 := by unfold kcd; rw [if_neg (by omega), if_neg (by omega), if_neg (by omega), if_neg (by omega)]
          rw [ek]
          rw [if_neg (by omega), if_neg (by omega), if_neg (by omega)] at fin
          refine ⟨fun q => absurd q (by decide), fun q => absurd q (by decide), fun q => absurd q (by decide), fun _ _ _ => ⟨by omega, fin _ rfl⟩⟩
        · have hr := hlt _ List.mem_cons_self
          have hl := hlt _ (List.mem_cons_of_mem _ List.mem_cons_self)
          rw [sumS, sumS] at hsum
          have el : lcd (ndAt (nodes tx) j) = nI (ndAt (nodes tx) j).2.1 := by unfold lcd; rw [if_neg (by omega), if_neg (by omega)]
          have er : rcd (ndAt (nodes tx) j) = nI (ndAt (nodes tx) j).2.2 := by unfold rcd; rw [if_pos (by omega)]
          rw [el, er]
          by_cases h11 : (ndAt (nodes tx) j).1 = 11
          · have ek : kcd (ndAt (nodes tx) j).1 = 3 := by unfold kcd; rw [if_neg (by omega), if_neg (by omega), if_pos h11]
            rw [ek]
            rw [if_neg (by omega), if_neg (by omega), if_pos h11] at fin
            refine ⟨fun q => absurd q (by decide), fun q => absurd q (by decide), fun _ => ?_, fun _ _ q => absurd rfl q⟩
            refine s_leastOf (by omega) (by omega) (hJ _ hl) (s_leastOf (by omega) (by omega) (hJ _ hr) ⟨by omega, fin _ ?_⟩)
            rw [nI_add]
          · have h12 : (ndAt (nodes tx) j).1 = 12 := by omega
            have ek : kcd (ndAt (nodes tx) j).1 = 2 := by unfold kcd; rw [if_neg (by omega), if_neg (by omega), if_neg h11, if_pos h12]
            rw [ek]
            rw [if_neg (by omega), if_pos h12] at fin
            refine ⟨fun q => absurd q (by decide), fun _ => ?_, fun q => absurd q (by decide), fun _ q => absurd rfl q⟩
            refine s_leastOf (by omega) (by omega) (hJ _ hl) (s_leastOf (by omega) (by omega) (hJ _ hr) ⟨by omega, fin _ ?_⟩)
            by_cases hq : LT (nodes tx) j (ndAt (nodes tx) j).2.2 < LT (nodes tx) j (ndAt (nodes tx) j).2.1
            · rw [if_pos hq, if_pos (nI_lt hq (by omega))]
            · rw [if_neg hq, if_neg (nI_nlt (by omega) (by omega))]
      · intro again2 le hJ
        unfold wp_X8_plant_L60
        try simp (disch := omega) only [k_0, k_1, k_2, k_3, k_4, k_6, k_7, k_10, k_11, k_12, k_13, k_14, k_16, k_32, k_36, k_40, k_41, k_42, k_43, k_49, k_64, k_80, k_96, k_97, k_100, k_109, k_110, k_127, k_128, k_146, k_147, k_160, k_2304, k_4608, k_13824, nI_add, pk_mul, pk_sub, nI_clamp, q_in, nI_ltI, nI_leI, nI_eq, forall_eq, e_shl, e_bit, e_b0, e_b1, e_bn, e_andn, fa_or, fa_and, e_m1, e_nneg]
        repeat (first | refine And.intro (fun hh => absurd hh (by omega)) (fun _ => ?_) | refine And.intro (fun _ => ?_) (fun hh => absurd hh (by omega)) | refine And.intro (by omega) ?_)
        exact h1 hok _ _ _ _ _ _ _ _ hN' hJ
  · have hr2 : FLT k tx (-1) := Or.inr ⟨false, 0, hok, Or.inr ⟨rfl, rfl, rfl⟩⟩
    exact e (hr.one hr2)
