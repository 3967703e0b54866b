/-! what is left of a word when some of its places are gone -/
def rem (u : List Nat) (T : Nat → Bool) : List Nat := match u with
  | [] => []
  | c :: u => if T 0 = true then rem u (fun j => T (j + 1)) else c :: rem u (fun j => T (j + 1))
def setT (T : Nat → Bool) (i : Nat) : Nat → Bool := fun j => T j || decide (j = i)
/-- place i of the word can be taken as the letter x -/
def isNx (ind : Nat → Nat → Bool) (u : List Nat) (T : Nat → Bool) (x i : Nat) : Prop := i < u.length ∧ u.getD i 0 = x ∧ T i = false ∧ ∀ j, j < i → T j = false → ind (u.getD j 0) x = true
theorem rem_nil (T : Nat → Bool) : rem [] T = [] := by rw [rem]
theorem rem_cons (c : Nat) (u : List Nat) (T : Nat → Bool) : rem (c :: u) T = if T 0 = true then rem u (fun j => T (j + 1)) else c :: rem u (fun j => T (j + 1)) := by rw [rem]
theorem rem_none : ∀ (u : List Nat) (T : Nat → Bool), (∀ j, j < u.length → T j = false) → rem u T = u
  | [], T, _ => rem_nil T
  | c :: u, T, h => by
    rw [rem_cons, if_neg (by rw [h 0 (by simp)]; decide), rem_none u _ (fun j hj => h (j + 1) (by simp; omega))]
theorem rem_congr : ∀ (u : List Nat) (T T' : Nat → Bool), (∀ j, j < u.length → T j = T' j) → rem u T = rem u T'
  | [], T, T', _ => by rw [rem_nil, rem_nil]
  | c :: u, T, T', h => by
    rw [rem_cons, rem_cons, h 0 (by simp), rem_congr u _ (fun j => T' (j + 1)) (fun j hj => h (j + 1) (by simp; omega))]
theorem rem_nx {ind : Nat → Nat → Bool} (irr : ∀ a, ind a a = false) : ∀ (u : List Nat) (T : Nat → Bool) (x i : Nat), isNx ind u T x i → rmv ind x (rem u T) = some (rem u (setT T i))
  | [], T, x, i, h => absurd h.1 (Nat.not_lt_zero _)
  | c :: u, T, x, 0, ⟨_, h2, h3, _⟩ => by
    have e : c = x := h2
    rw [rem_cons, rem_cons, if_neg (by rw [h3]; decide), rmv, if_pos e]
    rw [if_pos (by simp [setT])]
    congr 1
    exact rem_congr u _ _ (fun j _ => by simp [setT])
  | c :: u, T, x, i + 1, ⟨h1, h2, h3, h4⟩ => by
    have h5 : isNx ind u (fun j => T (j + 1)) x i := ⟨by simpa using h1, by simpa using h2, h3, fun j hj hT => by
      have := h4 (j + 1) (by omega) hT
      simpa using this⟩
    have ih := rem_nx irr u _ x i h5
    have e1 : (fun j => setT T (i + 1) (j + 1)) = setT (fun j => T (j + 1)) i := by
      funext j
      simp [setT]
    have e0 : setT T (i + 1) 0 = T 0 := by simp [setT]
    rw [rem_cons, rem_cons, e0, e1]
    cases hT : T 0 with
    | true => rw [if_pos rfl, if_pos rfl]; exact ih
    | false =>
      have h6 := h4 0 (by omega) hT
      have h7 : ind c x = true := h6
      have hne : ¬ c = x := fun e => by rw [e, irr] at h7; cases h7
      rw [if_neg (by decide), if_neg (by decide), rmv, if_neg hne, if_pos h7, ih]
      rfl
theorem rem_no {ind : Nat → Nat → Bool} : ∀ (u : List Nat) (T : Nat → Bool) (x : Nat), (∀ i, ¬ isNx ind u T x i) → rmv ind x (rem u T) = none
  | [], T, x, _ => by rw [rem_nil, rmv]
  | c :: u, T, x, h => by
    rw [rem_cons]
    cases hT : T 0 with
    | true =>
      rw [if_pos rfl]
      refine rem_no u _ x (fun i hi => h (i + 1) ⟨by have := hi.1; simp; omega, by simpa using hi.2.1, hi.2.2.1, fun j hj hTj => ?_⟩)
      cases j with
      | zero => rw [hT] at hTj; cases hTj
      | succ j => simpa using hi.2.2.2 j (by omega) hTj
    | false =>
      have hne : ¬ c = x := fun e => h 0 ⟨by simp, e, hT, fun j hj => absurd hj (Nat.not_lt_zero _)⟩
      rw [if_neg (by decide), rmv, if_neg hne]
      split
      · rename_i hi
        rw [rem_no u _ x (fun i hn => h (i + 1) ⟨by have := hn.1; simp; omega, by simpa using hn.2.1, hn.2.2.1, fun j hj hTj => ?_⟩)]
        · rfl
        · cases j with
          | zero => exact hi
          | succ j => simpa using hn.2.2.2 j (by omega) hTj
      · rfl
theorem nx_one {ind : Nat → Nat → Bool} (irr : ∀ a, ind a a = false) {u : List Nat} {T : Nat → Bool} {x i i' : Nat} (h : isNx ind u T x i) (h' : isNx ind u T x i') : i = i' := by
  rcases Nat.lt_trichotomy i i' with q | q | q
  · have := h'.2.2.2 i q h.2.2.1
    rw [h.2.1, irr] at this
    cases this
  · exact q
  · have := h.2.2.2 i' q h'.2.2.1
    rw [h'.2.1, irr] at this
    cases this
