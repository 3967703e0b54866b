/-! expressions: the nodes in the order of their making, the open levels -/
abbrev ND : Type := Nat × Nat × Nat
abbrev LV : Type := Option Nat × Option Nat × Option Nat
def jn (sg : Nat) (ns : List ND) : Option Nat → Option Nat → List ND × Option Nat
  | none, b => (ns, b)
  | some a, none => (ns, some a)
  | some a, some b => (ns ++ [(sg, a, b)], some ns.length)
def clP (ns : List ND) (l : LV) : List ND × LV := ((jn 11 ns l.2.1 l.2.2).1, (l.1, (jn 11 ns l.2.1 l.2.2).2, none))
def clS (ns : List ND) (l : LV) : List ND × LV := ((jn 12 (clP ns l).1 l.1 (clP ns l).2.2.1).1, ((jn 12 (clP ns l).1 l.1 (clP ns l).2.2.1).2, none, none))
def pstep (c : Nat) (ns : List ND) (l : LV) (ls : List LV) : List ND × List LV :=
  if c = 40 then ((clP ns l).1, (none, none, none) :: (clP ns l).2 :: ls)
  else if c = 41 then (match ls with
    | [] => (ns, [l])
    | m :: ms => ((clS ns l).1, (m.1, m.2.1, (clS ns l).2.1) :: ms))
  else if c = 42 then (match l.2.2 with
    | none => (ns, l :: ls)
    | some a => (ns ++ [(13, a, 0)], (l.1, l.2.1, some ns.length) :: ls))
  else if c = 43 then ((clS ns l).1, (clS ns l).2 :: ls)
  else if c = 49 then ((clP ns l).1 ++ [(10, 0, 0)], (l.1, (clP ns l).2.2.1, some (clP ns l).1.length) :: ls)
  else ((clP ns l).1 ++ [(c - 97, 0, 0)], (l.1, (clP ns l).2.2.1, some (clP ns l).1.length) :: ls)
def prs (tx : List Nat) : Nat → List ND × List LV
  | 0 => ([], [(none, none, none)])
  | i + 1 => match (prs tx i).2 with
    | [] => prs tx i
    | l :: ls => pstep (tx.getD i 0) (prs tx i).1 l ls
/-- what has been read and waits for more, the last thing first -/
def vals : List LV → List Nat
  | [] => []
  | l :: ls => l.2.2.toList ++ l.2.1.toList ++ l.1.toList ++ vals ls
def enc : List LV → List Nat
  | [] => []
  | l :: ls => (if l.2.1.isSome then [11] else []) ++ (if l.1.isSome then [12] else []) ++ (if ls.isEmpty then [] else [14]) ++ enc ls
/-- the stack of a postfix form -/
def stepS (j : Nat) (nd : ND) (S : List Nat) : Option (List Nat) :=
  if nd.1 < 11 then some (j :: S)
  else if nd.1 = 13 then (match S with
    | a :: S' => if a = nd.2.1 then some (j :: S') else none
    | [] => none)
  else (match S with
    | b :: a :: S' => if a = nd.2.1 ∧ b = nd.2.2 then some (j :: S') else none
    | _ => none)
def ndAt (ns : List ND) (j : Nat) : ND := ns.getD j (0, 0, 0)
def stk (ns : List ND) : Nat → Option (List Nat)
  | 0 => some []
  | j + 1 => match stk ns j with
    | none => none
    | some S => stepS j (ndAt ns j) S
theorem ndAt_app {ns : List ND} {x : ND} {j : Nat} (h : j < ns.length) : ndAt (ns ++ [x]) j = ndAt ns j := by
  unfold ndAt
  rw [List.getD_eq_getElem?_getD, List.getD_eq_getElem?_getD, List.getElem?_append_left h]
theorem ndAt_last {ns : List ND} {x : ND} : ndAt (ns ++ [x]) ns.length = x := by
  unfold ndAt
  rw [List.getD_eq_getElem?_getD]
  simp
theorem stk_app {ns : List ND} {x : ND} : ∀ {j : Nat}, j ≤ ns.length → stk (ns ++ [x]) j = stk ns j
  | 0, _ => rfl
  | j + 1, h => by rw [stk, stk, stk_app (by omega), ndAt_app (by omega)]
theorem stk_snoc {ns : List ND} {x : ND} {S : List Nat} (h : stk ns ns.length = some S) : stk (ns ++ [x]) (ns ++ [x]).length = stepS ns.length x S := by
  have e : (ns ++ [x]).length = ns.length + 1 := by simp
  rw [e, stk, stk_app (Nat.le_refl _), h, ndAt_last]
def sgOK (k : Nat) (ns : List ND) : Prop := ∀ nd ∈ ns, nd.1 < k ∨ (10 ≤ nd.1 ∧ nd.1 ≤ 13)
theorem sgOK.snoc {k : Nat} {ns : List ND} {x : ND} (h : sgOK k ns) (hx : x.1 < k ∨ (10 ≤ x.1 ∧ x.1 ≤ 13)) : sgOK k (ns ++ [x]) := fun nd hnd => by
  rcases List.mem_append.mp hnd with q | q
  · exact h nd q
  · rw [List.mem_singleton.mp q]; exact hx
def oB (n : Nat) (a : Option Nat) : Prop := ∀ x, a = some x → x < n
theorem oB.mono {n m : Nat} {a : Option Nat} (h : oB n a) (hm : n ≤ m) : oB m a := fun x hx => Nat.lt_of_lt_of_le (h x hx) hm
theorem oB_none (n : Nat) : oB n none := fun x hx => by cases hx
theorem jn_stk {sg : Nat} {ns : List ND} {rest : List Nat} (hsg : sg = 11 ∨ sg = 12) : ∀ (a b : Option Nat), stk ns ns.length = some (b.toList ++ (a.toList ++ rest)) → stk (jn sg ns a b).1 (jn sg ns a b).1.length = some ((jn sg ns a b).2.toList ++ rest)
  | none, b, h => h
  | some a, none, h => h
  | some a, some b, h => by
    show stk (ns ++ [(sg, a, b)]) (ns ++ [(sg, a, b)]).length = some (ns.length :: rest)
    rw [stk_snoc h]
    unfold stepS
    rw [if_neg (by rcases hsg with q | q <;> simp [q]), if_neg (by rcases hsg with q | q <;> simp [q])]
    exact if_pos ⟨rfl, rfl⟩
theorem jn_len {sg : Nat} {ns : List ND} : ∀ (a b : Option Nat), (jn sg ns a b).1.length + (jn sg ns a b).2.toList.length = ns.length + (a.toList.length + b.toList.length)
  | none, b => by simp [jn]
  | some a, none => by simp [jn]
  | some a, some b => by simp [jn]
theorem jn_le {sg : Nat} {ns : List ND} : ∀ (a b : Option Nat), ns.length ≤ (jn sg ns a b).1.length
  | none, b => Nat.le_refl _
  | some a, none => Nat.le_refl _
  | some a, some b => by simp [jn]
theorem jn_oB {sg : Nat} {ns : List ND} : ∀ (a b : Option Nat), oB ns.length a → oB ns.length b → oB (jn sg ns a b).1.length (jn sg ns a b).2
  | none, b, _, hb => hb
  | some a, none, ha, _ => ha
  | some a, some b, _, _ => fun x hx => by
    have e : ns.length = x := Option.some.inj hx
    show x < (ns ++ [(sg, a, b)]).length
    simp
    omega
theorem jn_sg {sg k : Nat} {ns : List ND} (hsg : sg = 11 ∨ sg = 12) (h : sgOK k ns) : ∀ (a b : Option Nat), sgOK k (jn sg ns a b).1
  | none, b => h
  | some a, none => h
  | some a, some b => h.snoc (Or.inr (by rcases hsg with q | q <;> simp [q]))
/-- what holds of the nodes and levels that have been read -/
def PI (k i : Nat) (nd : Bool) (d : Nat) (ns : List ND) (l : LV) (ls : List LV) : Prop := ls.length = d ∧ (nd = true ↔ l.2.2 = none) ∧ (l.2.2 = none → l.2.1 = none) ∧ (∀ m ∈ ls, m.2.2 = none) ∧ (∀ m ∈ l :: ls, oB ns.length m.1 ∧ oB ns.length m.2.1 ∧ oB ns.length m.2.2) ∧ ns.length + (vals (l :: ls)).length ≤ 2 * i ∧ (enc (l :: ls)).length + l.2.2.toList.length ≤ i ∧ stk ns ns.length = some (vals (l :: ls)) ∧ sgOK k ns
theorem clP_stk {ns : List ND} {l : LV} {rest : List Nat} (h : stk ns ns.length = some (l.2.2.toList ++ (l.2.1.toList ++ rest))) : stk (clP ns l).1 (clP ns l).1.length = some ((clP ns l).2.2.1.toList ++ rest) := jn_stk (Or.inl rfl) l.2.1 l.2.2 h
theorem clP_len (ns : List ND) (l : LV) : (clP ns l).1.length + (clP ns l).2.2.1.toList.length = ns.length + (l.2.1.toList.length + l.2.2.toList.length) := jn_len l.2.1 l.2.2
theorem clP_le (ns : List ND) (l : LV) : ns.length ≤ (clP ns l).1.length := jn_le _ _
theorem clP_oB {ns : List ND} {l : LV} (h1 : oB ns.length l.2.1) (h2 : oB ns.length l.2.2) : oB (clP ns l).1.length (clP ns l).2.2.1 := jn_oB _ _ h1 h2
theorem clS_stk {ns : List ND} {l : LV} {rest : List Nat} (h : stk ns ns.length = some (l.2.2.toList ++ (l.2.1.toList ++ (l.1.toList ++ rest)))) : stk (clS ns l).1 (clS ns l).1.length = some ((clS ns l).2.1.toList ++ rest) := jn_stk (Or.inr rfl) _ _ (clP_stk h)
theorem clS_len (ns : List ND) (l : LV) : (clS ns l).1.length + (clS ns l).2.1.toList.length = ns.length + (l.1.toList.length + (l.2.1.toList.length + l.2.2.toList.length)) := by
  have h1 := clP_len ns l
  have h2 := jn_len (sg := 12) (ns := (clP ns l).1) l.1 (clP ns l).2.2.1
  show (jn 12 (clP ns l).1 l.1 (clP ns l).2.2.1).1.length + (jn 12 (clP ns l).1 l.1 (clP ns l).2.2.1).2.toList.length = _
  omega
theorem clS_le (ns : List ND) (l : LV) : ns.length ≤ (clS ns l).1.length := Nat.le_trans (clP_le ns l) (jn_le _ _)
theorem clS_oB {ns : List ND} {l : LV} (h0 : oB ns.length l.1) (h1 : oB ns.length l.2.1) (h2 : oB ns.length l.2.2) : oB (clS ns l).1.length (clS ns l).2.1 := jn_oB _ _ (h0.mono (clP_le ns l)) (clP_oB h1 h2)
theorem clP_some {ns : List ND} {l : LV} (h : l.2.2 ≠ none) : (clP ns l).2.2.1 ≠ none := by
  show (jn 11 ns l.2.1 l.2.2).2 ≠ none
  cases h1 : l.2.1 with
  | none => exact h
  | some a =>
    cases h2 : l.2.2 with
    | none => exact absurd h2 h
    | some b => simp [jn]
theorem clP_none {ns : List ND} {l : LV} (h : l.2.2 = none) (h1 : l.2.1 = none) : clP ns l = (ns, (l.1, none, none)) := by
  unfold clP
  rw [h, h1]
  rfl
theorem clS_some {ns : List ND} {l : LV} (h : l.2.2 ≠ none) : (clS ns l).2.1 ≠ none := by
  have h1 := clP_some (ns := ns) h
  show (jn 12 (clP ns l).1 l.1 (clP ns l).2.2.1).2 ≠ none
  cases h3 : l.1 with
  | none => exact h1
  | some a =>
    cases h2 : (clP ns l).2.2.1 with
    | none => exact absurd h2 h1
    | some b => simp [jn]
theorem enc_cons (l : LV) (ls : List LV) : (enc (l :: ls)).length = (l.2.1.toList.length + l.1.toList.length) + ((if ls.isEmpty then 0 else 1) + (enc ls).length) := by
  rw [enc]
  cases l.2.1 <;> cases l.1 <;> cases ls.isEmpty <;> simp <;> omega
theorem vals_len (l : LV) (ls : List LV) : (vals (l :: ls)).length = l.2.2.toList.length + l.2.1.toList.length + l.1.toList.length + (vals ls).length := by
  rw [vals]
  simp
  omega
theorem opt_len {a : Option Nat} : a.toList.length ≤ 1 := by cases a <;> simp
theorem opt_some {a : Option Nat} (h : a ≠ none) : a.toList.length = 1 := by
  cases a with
  | none => exact absurd rfl h
  | some x => rfl
theorem opt_none {a : Option Nat} (h : a = none) : a.toList.length = 0 := by rw [h]; rfl
theorem PI_step {k i : Nat} {nd : Bool} {d : Nat} {ns : List ND} {l : LV} {ls : List LV} {c : Nat} (hk : k ≤ 6) (h : PI k i nd d ns l ls) {nd' : Bool} {d' : Nat} (hf : fstep k nd d c = some (nd', d')) : ∃ ns' l' ls', pstep c ns l ls = (ns', l' :: ls') ∧ PI k (i + 1) nd' d' ns' l' ls' := by
  obtain ⟨p1, p2, p3, p4, p5, p6, p7, p8, p9⟩ := h
  have q0 := p5 l List.mem_cons_self
  have qs : ∀ m ∈ ls, oB ns.length m.1 ∧ oB ns.length m.2.1 ∧ oB ns.length m.2.2 := fun m hm => p5 m (List.mem_cons_of_mem _ hm)
  have v1 := vals_len l ls
  have e1 := enc_cons l ls
  have cl := clP_len ns l
  have cle := clP_le ns l
  have sl := clS_len ns l
  have sle := clS_le ns l
  have hv : vals (l :: ls) = l.2.2.toList ++ (l.2.1.toList ++ (l.1.toList ++ vals ls)) := by rw [vals]; simp
  rw [hv] at p8
  have cst := clP_stk (l := l) p8
  have sst := clS_stk (l := l) p8
  have csg : sgOK k (clP ns l).1 := jn_sg (Or.inl rfl) p9 _ _
  have ssg : sgOK k (clS ns l).1 := jn_sg (Or.inr rfl) csg _ _
  have cob := clP_oB q0.2.1 q0.2.2
  have sob := clS_oB q0.1 q0.2.1 q0.2.2
  have o1 := opt_len (a := l.1)
  have o2 := opt_len (a := l.2.1)
  have o3 := opt_len (a := l.2.2)
  have o4 := opt_len (a := (clP ns l).2.2.1)
  have o5 := opt_len (a := (clS ns l).2.1)
  have atom : ∀ sg, (sg < k ∨ sg = 10) → PI k (i + 1) false d ((clP ns l).1 ++ [(sg, 0, 0)]) (l.1, (clP ns l).2.2.1, some (clP ns l).1.length) ls := by
    intro sg hsg
    have len : ((clP ns l).1 ++ [(sg, 0, 0)]).length = (clP ns l).1.length + 1 := by simp
    refine ⟨p1, ⟨fun q => by (cases q), fun q => by (cases q)⟩, fun q => by (cases q), p4, fun m hm => ?_, ?_, ?_, ?_, csg.snoc (by rcases hsg with q | q; exact Or.inl q; exact Or.inr (by simp [q]))⟩
    · rw [len]
      rcases List.mem_cons.mp hm with q | q
      · rw [q]
        exact ⟨q0.1.mono (by omega), cob.mono (by omega), fun x hx => by have : (clP ns l).1.length = x := Option.some.inj hx; omega⟩
      · exact ⟨(qs m q).1.mono (by omega), (qs m q).2.1.mono (by omega), (qs m q).2.2.mono (by omega)⟩
    · have v2 := vals_len (l.1, (clP ns l).2.2.1, some (clP ns l).1.length) ls
      rw [len, v2]
      simp only [Option.toList_some, List.length_singleton]
      omega
    · have e2 := enc_cons (l.1, (clP ns l).2.2.1, some (clP ns l).1.length) ls
      rw [e2]
      simp only [Option.toList_some, List.length_singleton]
      cases h3 : l.2.2 with
      | none =>
        have h4 := p3 h3
        rw [clP_none h3 h4]
        simp only [h4, h3, Option.toList_none, List.length_nil] at *
        omega
      | some b =>
        rw [h3] at o3 p7
        simp only [Option.toList_some, List.length_singleton] at *
        omega
    · rw [stk_snoc cst]
      unfold stepS
      rw [if_pos (by show sg < 11; omega)]
      rw [vals]
      simp
  unfold fstep at hf
  split at hf
  · rename_i hL
    cases hf
    rcases hL with hL | hL
    · refine ⟨_, _, ls, ?_, atom 10 (Or.inr rfl)⟩
      unfold pstep
      rw [if_neg (by omega), if_neg (by omega), if_neg (by omega), if_neg (by omega), if_pos hL]
    · refine ⟨_, _, ls, ?_, atom (c - 97) (Or.inl (by omega))⟩
      unfold pstep
      rw [if_neg (by omega), if_neg (by omega), if_neg (by omega), if_neg (by omega), if_neg (by omega)]
  · split at hf
    · rename_i hL h40
      cases hf
      refine ⟨_, _, _, by unfold pstep; rw [if_pos h40], by simp [p1], ⟨fun _ => rfl, fun _ => rfl⟩, fun _ => rfl, fun m hm => ?_, fun m hm => ?_, ?_, ?_, ?_, csg⟩
      · rcases List.mem_cons.mp hm with q | q
        · rw [q]; rfl
        · exact p4 m q
      · rcases List.mem_cons.mp hm with q | q
        · rw [q]; exact ⟨oB_none _, oB_none _, oB_none _⟩
        · rcases List.mem_cons.mp q with q | q
          · rw [q]; exact ⟨q0.1.mono cle, cob, oB_none _⟩
          · exact ⟨(qs m q).1.mono cle, (qs m q).2.1.mono cle, (qs m q).2.2.mono cle⟩
      · have v2 := vals_len (none, none, none) ((clP ns l).2 :: ls)
        have v3 := vals_len (clP ns l).2 ls
        rw [v2, v3]
        have e3 : (clP ns l).2.2.2 = none := rfl
        have e4 : (clP ns l).2.1 = l.1 := rfl
        rw [e3, e4]
        simp only [Option.toList_none, List.length_nil]
        omega
      · have e2 := enc_cons (none, none, none) ((clP ns l).2 :: ls)
        have e3 := enc_cons (clP ns l).2 ls
        rw [e2, e3]
        have e4 : (clP ns l).2.1 = l.1 := rfl
        rw [e4]
        simp only [Option.toList_none, List.length_nil, List.isEmpty_cons, Bool.false_eq_true, if_false]
        cases h3 : l.2.2 with
        | none =>
          have h4 := p3 h3
          rw [clP_none h3 h4]
          simp only [h4, h3, Option.toList_none, List.length_nil] at *
          omega
        | some b =>
          rw [h3] at o3 p7
          simp only [Option.toList_some, List.length_singleton] at *
          omega
      · rw [cst]
        rw [vals, vals]
        have e3 : (clP ns l).2.2.2 = none := rfl
        have e4 : (clP ns l).2.1 = l.1 := rfl
        rw [e3, e4]
        simp
    · split at hf
      · cases hf
      · rename_i hL h40 hnd
        have hit : l.2.2 ≠ none := fun q => hnd (p2.mpr q)
        have o3' := opt_some hit
        split at hf
        · rename_i h43
          cases hf
          refine ⟨_, _, ls, by unfold pstep; rw [if_neg h40, if_neg (by omega), if_neg (by omega), if_pos h43], p1, ⟨fun _ => rfl, fun _ => rfl⟩, fun _ => rfl, p4, fun m hm => ?_, ?_, ?_, ?_, ssg⟩
          · rcases List.mem_cons.mp hm with q | q
            · rw [q]; exact ⟨sob, oB_none _, oB_none _⟩
            · exact ⟨(qs m q).1.mono sle, (qs m q).2.1.mono sle, (qs m q).2.2.mono sle⟩
          · have v2 := vals_len (clS ns l).2 ls
            rw [v2]
            have e3 : (clS ns l).2.2.2 = none := rfl
            have e4 : (clS ns l).2.2.1 = none := rfl
            rw [e3, e4]
            simp only [Option.toList_none, List.length_nil]
            omega
          · have e2 := enc_cons (clS ns l).2 ls
            rw [e2]
            have e3 : (clS ns l).2.2.2 = none := rfl
            have e4 : (clS ns l).2.2.1 = none := rfl
            rw [e3, e4]
            simp only [Option.toList_none, List.length_nil]
            omega
          · rw [sst, vals]
            have e3 : (clS ns l).2.2.2 = none := rfl
            have e4 : (clS ns l).2.2.1 = none := rfl
            rw [e3, e4]
            simp
        · split at hf
          · rename_i h43 h41
            cases hf
            cases ls with
            | nil => simp at p1; omega
            | cons m ms =>
              have qm := qs m List.mem_cons_self
              have hm2 := p4 m List.mem_cons_self
              refine ⟨_, _, ms, by unfold pstep; rw [if_neg h40, if_pos h41.1], by simp at p1; omega, ⟨fun q => by (cases q), fun q => absurd q (clS_some hit)⟩, fun q => absurd q (clS_some hit), fun m' hm' => p4 m' (List.mem_cons_of_mem _ hm'), fun m' hm' => ?_, ?_, ?_, ?_, ssg⟩
              · rcases List.mem_cons.mp hm' with q | q
                · rw [q]; exact ⟨qm.1.mono sle, qm.2.1.mono sle, sob⟩
                · have := qs m' (List.mem_cons_of_mem _ q)
                  exact ⟨this.1.mono sle, this.2.1.mono sle, this.2.2.mono sle⟩
              · have v2 := vals_len (m.1, m.2.1, (clS ns l).2.1) ms
                have v3 := vals_len m ms
                rw [v2]
                rw [hm2] at v3
                simp only [Option.toList_none, List.length_nil] at v3
                simp only
                omega
              · have e2 := enc_cons (m.1, m.2.1, (clS ns l).2.1) ms
                have e3 := enc_cons m ms
                rw [e2]
                simp only [List.isEmpty_cons, Bool.false_eq_true, if_false] at e1
                simp only
                omega
              · rw [sst, vals, vals, hm2]
                simp
          · split at hf
            · rename_i h43 h41 h42
              cases hf
              cases h3 : l.2.2 with
              | none => exact absurd h3 hit
              | some a =>
                have len : (ns ++ [(13, a, 0)]).length = ns.length + 1 := by simp
                refine ⟨ns ++ [(13, a, 0)], (l.1, l.2.1, some ns.length), ls, by unfold pstep; rw [if_neg h40, if_neg (by omega), if_pos h42, h3], p1, ⟨fun q => by (cases q), fun q => by (cases q)⟩, fun q => by (cases q), p4, fun m hm => ?_, ?_, ?_, ?_, p9.snoc (Or.inr (by simp))⟩
                · rw [len]
                  rcases List.mem_cons.mp hm with q | q
                  · rw [q]
                    exact ⟨q0.1.mono (by omega), q0.2.1.mono (by omega), fun x hx => by have : ns.length = x := Option.some.inj hx; omega⟩
                  · exact ⟨(qs m q).1.mono (by omega), (qs m q).2.1.mono (by omega), (qs m q).2.2.mono (by omega)⟩
                · have v2 := vals_len (l.1, l.2.1, some ns.length) ls
                  rw [len, v2]
                  simp only [Option.toList_some, List.length_singleton]
                  omega
                · have e2 := enc_cons (l.1, l.2.1, some ns.length) ls
                  rw [e2]
                  simp only [Option.toList_some, List.length_singleton]
                  omega
                · rw [h3] at p8
                  rw [stk_snoc p8]
                  unfold stepS
                  rw [if_neg (show ¬ (13:Nat) < 11 by decide), if_pos rfl]
                  show (if a = a then some (ns.length :: _) else none) = _
                  rw [if_pos rfl, vals]
                  simp
            · cases hf
theorem PI_all {k : Nat} {tx : List Nat} (hk : k ≤ 6) : ∀ {i : Nat} {nd : Bool} {d : Nat}, fs k tx i = some (nd, d) → ∃ ns l ls, prs tx i = (ns, l :: ls) ∧ PI k i nd d ns l ls
  | 0, nd, d, h => by
    cases h
    refine ⟨[], (none, none, none), [], rfl, rfl, ⟨fun _ => rfl, fun _ => rfl⟩, fun _ => rfl, fun m hm => absurd hm List.not_mem_nil, fun m hm => ?_, by simp [vals], by simp [enc], rfl, fun nd hnd => absurd hnd List.not_mem_nil⟩
    rw [List.mem_singleton.mp hm]
    exact ⟨oB_none _, oB_none _, oB_none _⟩
  | i + 1, nd', d', h => by
    cases hp : fs k tx i with
    | none => rw [fs, hp] at h; cases h
    | some s =>
      obtain ⟨nd, d⟩ := s
      obtain ⟨ns, l, ls, e, hP⟩ := PI_all hk hp
      rw [fs_s hp] at h
      obtain ⟨ns', l', ls', e2, hP2⟩ := PI_step hk hP h
      exact ⟨ns', l', ls', by rw [prs, e]; exact e2, hP2⟩
/-- the nodes of a text without a fault -/
def nodes (tx : List Nat) : List ND := match (prs tx tx.length).2 with
  | [] => []
  | l :: _ => (clS (prs tx tx.length).1 l).1
def topN (tx : List Nat) : Nat := match (prs tx tx.length).2 with
  | [] => 0
  | l :: _ => (clS (prs tx tx.length).1 l).2.1.getD 0
