/-! how many nodes a text has -/
def nn : List ND → Nat
  | [] => 0
  | x :: xs => (if x.1 = 11 then 0 else 1) + nn xs
theorem nn_app : ∀ (xs ys : List ND), nn (xs ++ ys) = nn xs + nn ys
  | [], ys => by simp [nn]
  | x :: xs, ys => by
    rw [List.cons_append, nn, nn, nn_app xs ys]
    omega
def pend : List LV → Nat
  | [] => 0
  | l :: ls => l.1.toList.length + pend ls
theorem nn_jn11 (ns : List ND) : ∀ (a b : Option Nat), nn (jn 11 ns a b).1 = nn ns
  | none, b => rfl
  | some a, none => rfl
  | some a, some b => by show nn (ns ++ [(11, a, b)]) = nn ns; rw [nn_app]; rfl
theorem nn_jn12 (ns : List ND) : ∀ (a b : Option Nat), nn (jn 12 ns a b).1 ≤ nn ns + a.toList.length
  | none, b => Nat.le_add_right _ _
  | some a, none => Nat.le_add_right _ _
  | some a, some b => by show nn (ns ++ [(12, a, b)]) ≤ nn ns + 1; rw [nn_app]; exact Nat.le_refl _
theorem nn_clP (ns : List ND) (l : LV) : nn (clP ns l).1 = nn ns := nn_jn11 _ _ _
theorem nn_clS (ns : List ND) (l : LV) : nn (clS ns l).1 ≤ nn ns + l.1.toList.length := by
  have := nn_jn12 (clP ns l).1 l.1 (clP ns l).2.2.1
  rw [nn_clP] at this
  exact this
theorem nn_pstep (c : Nat) (ns : List ND) (l : LV) (ls : List LV) : nn (pstep c ns l ls).1 + pend (pstep c ns l ls).2 ≤ nn ns + pend (l :: ls) + 1 := by
  have hS := nn_clS ns l
  have hP := nn_clP ns l
  have pe : pend (l :: ls) = l.1.toList.length + pend ls := rfl
  unfold pstep
  split
  · show nn (clP ns l).1 + (0 + (l.1.toList.length + pend ls)) ≤ _
    omega
  · split
    · cases ls with
      | nil => show nn ns + pend [l] ≤ _; omega
      | cons m ms =>
        have pe2 : pend (m :: ms) = m.1.toList.length + pend ms := rfl
        show nn (clS ns l).1 + (m.1.toList.length + pend ms) ≤ _
        omega
    · split
      · cases h : l.2.2 with
        | none => show nn ns + pend (l :: ls) ≤ _; omega
        | some a =>
          show nn (ns ++ [(13, a, 0)]) + (l.1.toList.length + pend ls) ≤ _
          rw [nn_app, show nn [((13, a, 0) : ND)] = 1 from rfl]
          omega
      · split
        · have o := opt_len (a := (clS ns l).2.1)
          show nn (clS ns l).1 + ((clS ns l).2.1.toList.length + pend ls) ≤ _
          omega
        · split
          · show nn ((clP ns l).1 ++ [(10, 0, 0)]) + (l.1.toList.length + pend ls) ≤ _
            rw [nn_app, show nn [((10, 0, 0) : ND)] = 1 from rfl]
            omega
          · show nn ((clP ns l).1 ++ [(c - 97, 0, 0)]) + (l.1.toList.length + pend ls) ≤ _
            have : nn [((c - 97, 0, 0) : ND)] ≤ 1 := by
              show (if c - 97 = 11 then 0 else 1) + 0 ≤ 1
              split <;> omega
            rw [nn_app]
            omega
theorem nn_prs (tx : List Nat) : ∀ i, nn (prs tx i).1 + pend (prs tx i).2 ≤ i
  | 0 => Nat.le_refl _
  | i + 1 => by
    have ih := nn_prs tx i
    rw [prs]
    cases h : (prs tx i).2 with
    | nil => rw [h] at ih; show nn (prs tx i).1 + pend (prs tx i).2 ≤ i + 1; rw [h]; omega
    | cons l ls =>
      rw [h] at ih
      have := nn_pstep (tx.getD i 0) (prs tx i).1 l ls
      show nn (pstep (tx.getD i 0) (prs tx i).1 l ls).1 + pend (pstep (tx.getD i 0) (prs tx i).1 l ls).2 ≤ i + 1
      omega
theorem nn_nodes (tx : List Nat) : nn (nodes tx) ≤ tx.length := by
  have h := nn_prs tx tx.length
  unfold nodes
  cases e : (prs tx tx.length).2 with
  | nil => exact Nat.zero_le _
  | cons l ls =>
    rw [e] at h
    have hS := nn_clS (prs tx tx.length).1 l
    have pe : pend (l :: ls) = l.1.toList.length + pend ls := rfl
    show nn (clS (prs tx tx.length).1 l).1 ≤ _
    omega
theorem take_s {ns : List ND} {j : Nat} (h : j < ns.length) : ns.take (j + 1) = ns.take j ++ [ndAt ns j] := by
  unfold ndAt
  rw [List.getD_eq_getElem?_getD, List.getElem?_eq_getElem h]
  exact (List.take_append_getElem h).symm
theorem SN_nn {ns : List ND} : ∀ {j : Nat}, j ≤ ns.length → SN ns j = 2 * nn (ns.take j)
  | 0, _ => rfl
  | j + 1, h => by
    rw [SN, SN_nn (Nat.le_of_lt h), take_s h, nn_app, nn, nn]
    split <;> omega
theorem nn_take (ns : List ND) (j : Nat) : nn (ns.take j) ≤ nn ns := by
  have h := nn_app (ns.take j) (ns.drop j)
  rw [List.take_append_drop] at h
  omega
theorem SP_SN (ns : List ND) : ∀ j, 2 * SP ns j ≤ SN ns j
  | 0 => Nat.le_refl _
  | j + 1 => by
    have ih := SP_SN ns j
    rw [SP, SN]
    split <;> split <;> omega
theorem SN_le {tx : List Nat} (h80 : tx.length ≤ 80) {j : Nat} (hj : j ≤ (nodes tx).length) : SN (nodes tx) j ≤ 160 := by
  have h1 := SN_nn hj
  have h2 := nn_take (nodes tx) j
  have h3 := nn_nodes tx
  omega
theorem SN_mono (ns : List ND) (i : Nat) : ∀ d, SN ns i ≤ SN ns (i + d)
  | 0 => Nat.le_refl _
  | d + 1 => Nat.le_trans (SN_mono ns i d) (Nat.le_add_right _ _)
