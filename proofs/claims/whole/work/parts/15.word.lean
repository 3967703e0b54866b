/-! the forms that the simplifier meets -/
theorem e_shl {k : Nat} (h : k < 32) : nI 1 <<< (nI k &&& 31) = nI (2 ^ k) := q_shl k h
theorem tb_one {i : Nat} (h : ¬ i = 0) : Nat.testBit 1 i = false := by
  cases i with
  | zero => exact absurd rfl h
  | succ j => rw [Nat.testBit_succ]; simp
theorem e_bit {n k : Nat} (h : k < 32) : (nI n >>> (nI k &&& 31)) &&& nI 1 = nI (n.testBit k).toNat := by
  apply Int32.toBitVec_inj.1
  apply BitVec.eq_of_getLsbD_eq
  intro i hi
  have e1 : (nI 1).toBitVec = 1#32 := rfl
  have e2 : (BitVec.ofNat 32 n).sshiftRight' ((nI k &&& 31).toBitVec.smod 32) = (BitVec.ofNat 32 n).sshiftRight k := by
    rw [BitVec.sshiftRight_eq', q_sl k h]
  rw [Int32.toBitVec_and, e1, BitVec.getLsbD_and, Int32.toBitVec_shiftRight, q_bv, q_bv, e2, BitVec.getLsbD_ofNat, BitVec.getLsbD_ofNat]
  by_cases h0 : i = 0
  · subst h0
    rw [BitVec.getLsbD_sshiftRight]
    have e4 : (BitVec.ofNat 32 n).getLsbD k = n.testBit k := by rw [BitVec.getLsbD_ofNat]; simp [h]
    have e5 : k + 0 < 32 := h
    rw [if_pos e5, Nat.add_zero, e4]
    cases n.testBit k <;> simp
  · rw [tb_one h0]
    cases n.testBit k
    · simp
    · simp [tb_one h0]
theorem e_b0 {b : Bool} : nI b.toNat = nI 0 ↔ b = false := by cases b <;> decide
theorem e_b1 {b : Bool} : nI b.toNat = nI 1 ↔ b = true := by cases b <;> decide
theorem e_bn {b : Bool} : ¬ b = false ↔ b = true := by cases b <;> simp
theorem e_m1 : (-nI 1 : Int32) = -1 := rfl
theorem e_andn (a b : Nat) : nI a &&& (nI b ^^^ (-1)) = nI (andn a b) := q_andn a b
theorem e_nneg {n : Nat} (h : n < 2 ^ 31) : nI n = -1 ↔ False := q_m1 h
/-! a row of letters as a list -/
def WR (sz : Int32) (lt : Nat → Int32) (u : List Nat) : Prop := sz = nI u.length ∧ u.length ≤ 32 ∧ ∀ i, i < u.length → lt i = nI (u.getD i 0)
theorem getD_app {u w : List Nat} {i : Nat} (h : i < u.length) : (u ++ w).getD i 0 = u.getD i 0 := by
  rw [List.getD_eq_getElem?_getD, List.getD_eq_getElem?_getD, List.getElem?_append_left h]
theorem getD_last {u : List Nat} {x : Nat} : (u ++ [x]).getD u.length 0 = x := by
  rw [List.getD_eq_getElem?_getD]; simp
theorem getD_mem {u : List Nat} {i : Nat} (h : i < u.length) : u.getD i 0 ∈ u := by
  rw [List.getD_eq_getElem?_getD, List.getElem?_eq_getElem h]
  exact List.getElem_mem h
theorem take_snoc {w : List Nat} {i : Nat} (h : i < w.length) : w.take (i + 1) = w.take i ++ [w.getD i 0] := by
  rw [List.take_succ, List.getD_eq_getElem?_getD, List.getElem?_eq_getElem h]
  rfl
theorem WR.push {sz : Int32} {lt : Nat → Int32} {u : List Nat} (h : WR sz lt u) (hl : u.length < 32) (x : Nat) : WR (sz + 1) (upd lt u.length (nI x)) (u ++ [x]) := by
  obtain ⟨h1, h2, h3⟩ := h
  refine ⟨by rw [h1, nI_1]; simp, by simp; omega, fun i hi => ?_⟩
  simp at hi
  by_cases e : i = u.length
  · subst e
    rw [pk_us, getD_last]
  · rw [pk_un e, h3 i (by omega), getD_app (by omega)]
theorem s_at {lt : Nat → Int32} {u : List Nat} (h : WR (nI u.length) lt u) {i : Nat} (hi : i < u.length) {K : Int32 → Prop} (hK : K (nI (u.getD i 0))) : wp_X9_at (nI u.length) lt (nI i) K := by
  obtain ⟨-, h2, h3⟩ := h
  unfold wp_X9_at
  try simp (disch := omega) only [k_0, k_1, k_2, k_3, k_4, k_6, k_7, k_10, k_11, k_12, k_13, k_14, k_16, k_32, k_36, k_40, k_41, k_42, k_43, k_49, k_64, k_80, k_96, k_97, k_100, k_109, k_110, k_127, k_128, k_146, k_147, k_160, k_2304, k_4608, k_13824, nI_add, pk_mul, pk_sub, nI_clamp, q_in, nI_ltI, nI_leI, nI_eq, forall_eq, e_shl, e_bit, e_b0, e_b1, e_bn, e_andn, fa_or, fa_and, e_m1, e_nneg]
  repeat (first | refine And.intro (fun hh => absurd hh (by omega)) (fun _ => ?_) | refine And.intro (fun _ => ?_) (fun hh => absurd hh (by omega)) | refine And.intro (by omega) ?_)
  rw [h3 i hi]; exact hK
theorem s_push {lt : Nat → Int32} {u : List Nat} (h : WR (nI u.length) lt u) (hl : u.length < 32) {x : Nat} {K : Int32 → (Nat → Int32) → Prop} (hK : ∀ lt', WR (nI (u ++ [x]).length) lt' (u ++ [x]) → K (nI (u ++ [x]).length) lt') : wp_X9_push (nI u.length) lt (nI x) K := by
  have hp := h.push hl x
  rw [nI_1, show u.length + 1 = (u ++ [x]).length by simp] at hp
  unfold wp_X9_push
  try simp (disch := omega) only [k_0, k_1, k_2, k_3, k_4, k_6, k_7, k_10, k_11, k_12, k_13, k_14, k_16, k_32, k_36, k_40, k_41, k_42, k_43, k_49, k_64, k_80, k_96, k_97, k_100, k_109, k_110, k_127, k_128, k_146, k_147, k_160, k_2304, k_4608, k_13824, nI_add, pk_mul, pk_sub, nI_clamp, q_in, nI_ltI, nI_leI, nI_eq, forall_eq, e_shl, e_bit, e_b0, e_b1, e_bn, e_andn, fa_or, fa_and, e_m1, e_nneg]
  repeat (first | refine And.intro (fun hh => absurd hh (by omega)) (fun _ => ?_) | refine And.intro (fun _ => ?_) (fun hh => absurd hh (by omega)) | refine And.intro (by omega) ?_)
  rw [show u.length + 1 = (u ++ [x]).length by simp]
  exact hK _ hp
theorem s_pushAll {lt lt2 : Nat → Int32} {u w : List Nat} (h : WR (nI u.length) lt u) (h2 : WR (nI w.length) lt2 w) (hl : u.length + w.length ≤ 32) {K : Int32 → (Nat → Int32) → Prop} (hK : ∀ lt', WR (nI (u ++ w).length) lt' (u ++ w) → K (nI (u ++ w).length) lt') : wp_X9_pushAll (nI u.length) lt (nI w.length) lt2 K := by
  refine for_X9_pushAll_L7 _ _ _ _ w.length (fun i s l => s = nI (u ++ w.take i).length ∧ WR s l (u ++ w.take i)) ?_ ?_ 0 _ _ _ rfl (Nat.zero_le _) (by simpa using h)
  · rintro again i s l hi ⟨rfl, hw⟩ hag
    unfold wp_X9_pushAll_L7
    try simp (disch := omega) only [k_0, k_1, k_2, k_3, k_4, k_6, k_7, k_10, k_11, k_12, k_13, k_14, k_16, k_32, k_36, k_40, k_41, k_42, k_43, k_49, k_64, k_80, k_96, k_97, k_100, k_109, k_110, k_127, k_128, k_146, k_147, k_160, k_2304, k_4608, k_13824, nI_add, pk_mul, pk_sub, nI_clamp, q_in, nI_ltI, nI_leI, nI_eq, forall_eq, e_shl, e_bit, e_b0, e_b1, e_bn, e_andn, fa_or, fa_and, e_m1, e_nneg]
    repeat (first | refine And.intro (fun hh => absurd hh (by omega)) (fun _ => ?_) | refine And.intro (fun _ => ?_) (fun hh => absurd hh (by omega)) | refine And.intro (by omega) ?_)
    refine s_at h2 hi (s_push hw (by simp; omega) (fun l' h' => ?_))
    try simp (disch := omega) only [k_0, k_1, k_2, k_3, k_4, k_6, k_7, k_10, k_11, k_12, k_13, k_14, k_16, k_32, k_36, k_40, k_41, k_42, k_43, k_49, k_64, k_80, k_96, k_97, k_100, k_109, k_110, k_127, k_128, k_146, k_147, k_160, k_2304, k_4608, k_13824, nI_add, pk_mul, pk_sub, nI_clamp, q_in, nI_ltI, nI_leI, nI_eq, forall_eq, e_shl, e_bit, e_b0, e_b1, e_bn, e_andn, fa_or, fa_and, e_m1, e_nneg]
    rw [List.append_assoc, ← take_snoc hi] at h'
    rw [List.append_assoc, ← take_snoc hi]
    exact hag _ _ ⟨rfl, h'⟩
  · rintro again s l ⟨rfl, hw⟩
    unfold wp_X9_pushAll_L7
    try simp (disch := omega) only [k_0, k_1, k_2, k_3, k_4, k_6, k_7, k_10, k_11, k_12, k_13, k_14, k_16, k_32, k_36, k_40, k_41, k_42, k_43, k_49, k_64, k_80, k_96, k_97, k_100, k_109, k_110, k_127, k_128, k_146, k_147, k_160, k_2304, k_4608, k_13824, nI_add, pk_mul, pk_sub, nI_clamp, q_in, nI_ltI, nI_leI, nI_eq, forall_eq, e_shl, e_bit, e_b0, e_b1, e_bn, e_andn, fa_or, fa_and, e_m1, e_nneg]
    repeat (first | refine And.intro (fun hh => absurd hh (by omega)) (fun _ => ?_) | refine And.intro (fun _ => ?_) (fun hh => absurd hh (by omega)) | refine And.intro (by omega) ?_)
    rw [List.take_length] at hw ⊢
    exact hK _ hw
