/-! sums and stars -/
theorem GA_12 {E : Nat → Nat → Prop} {n sp : Nat} {sq fo : Nat → Nat} {T : List FT} {l r : FT} (h : GA E n sp sq fo (r :: l :: T)) : GA (sumE E n l.1 r.1 l.2.1 r.2.1) (n + 2) sp sq fo ((n, n + 1, (if r.2.2.1 < l.2.2.1 then r.2.2.1 else l.2.2.1), l.2.2.2.1 ||| r.2.2.2.1, l.2.2.2.2 ||| r.2.2.2.2) :: T) := by
  obtain ⟨g1, g2, g3, g4, g5, g6, g7⟩ := h
  obtain ⟨q1, q2⟩ := List.pairwise_cons.mp g7
  obtain ⟨q3, q4⟩ := List.pairwise_cons.mp q2
  have arl := q1 l List.mem_cons_self
  obtain ⟨r1, r2, r3, r4, r5, r6, r7, r8⟩ := g6 r List.mem_cons_self
  obtain ⟨l1, l2, l3, l4, l5, l6, l7, l8⟩ := g6 l (List.mem_cons_of_mem _ List.mem_cons_self)
  have k1 : ∀ x, RT E x (n + 1) ↔ x = n + 1 := fun x => RT_snk (fun s h => by have := g1 _ _ h; omega)
  have k2 : ∀ y, RT E n y ↔ n = y := fun x => RT_src (fun s h => by have := g1 _ _ h; omega)
  have R' : ∀ x y, RT (sumE E n l.1 r.1 l.2.1 r.2.1) x y ↔ RT E x y ∨ (x = n ∧ (RT E l.1 y ∨ RT E r.1 y)) ∨ (y = n + 1 ∧ (RT E x l.2.1 ∨ RT E x r.2.1)) ∨ (x = n ∧ y = n + 1 ∧ (RT E l.1 l.2.1 ∨ RT E r.1 l.2.1 ∨ RT E l.1 r.2.1 ∨ RT E r.1 r.2.1)) := fun x y => rt_sumE g1 l1 r1 l2 r2
  have o1 : ∀ x y, x < n → y < n → (RT (sumE E n l.1 r.1 l.2.1 r.2.1) x y ↔ RT E x y) := fun x y hx hy => by
    rw [R']
    constructor
    · rintro (w | ⟨w, -⟩ | ⟨w, -⟩ | ⟨w, -, -⟩)
      · exact w
      · omega
      · omega
      · omega
    · exact Or.inl
  have o2 : ∀ y, y < n → (RT (sumE E n l.1 r.1 l.2.1 r.2.1) n y ↔ RT E l.1 y ∨ RT E r.1 y) := fun y hy => by
    rw [R', k2]
    constructor
    · rintro (w | ⟨-, w⟩ | ⟨w, -⟩ | ⟨-, w, -⟩)
      · omega
      · exact w
      · omega
      · omega
    · exact fun w => Or.inr (Or.inl ⟨rfl, w⟩)
  have o3 : ∀ x, x < n → (RT (sumE E n l.1 r.1 l.2.1 r.2.1) x (n + 1) ↔ RT E x l.2.1 ∨ RT E x r.2.1) := fun x hx => by
    rw [R', k1]
    constructor
    · rintro (w | ⟨w, -⟩ | ⟨-, w⟩ | ⟨w, -, -⟩)
      · omega
      · omega
      · exact w
      · omega
    · exact fun w => Or.inr (Or.inr (Or.inl ⟨rfl, w⟩))
  have o4 : RT (sumE E n l.1 r.1 l.2.1 r.2.1) n (n + 1) ↔ RT E l.1 l.2.1 ∨ RT E r.1 r.2.1 := by
    rw [R', k1, k1, k1, k2, k2]
    have a1 := arl.1
    have a2 := arl.2.1
    constructor
    · rintro (w | ⟨-, w | w⟩ | ⟨-, w | w⟩ | ⟨-, -, w | w | w | w⟩)
      · omega
      · omega
      · omega
      · omega
      · omega
      · exact Or.inl w
      · exact absurd w a1
      · exact absurd w a2
      · exact Or.inr w
    · rintro (w | w)
      · exact Or.inr (Or.inr (Or.inr ⟨rfl, rfl, Or.inl w⟩))
      · exact Or.inr (Or.inr (Or.inr ⟨rfl, rfl, Or.inr (Or.inr (Or.inr w))⟩))
  have nx : ∀ s t, sumE E n l.1 r.1 l.2.1 r.2.1 s t → E s t ∨ s = n ∨ ((s = l.2.1 ∨ s = r.2.1) ∧ t = n + 1) := by
    rintro s t ((((w | ⟨w, -⟩) | ⟨w, -⟩) | ⟨w, w2⟩) | ⟨w, w2⟩)
    · exact Or.inl w
    · exact Or.inr (Or.inl w)
    · exact Or.inr (Or.inl w)
    · exact Or.inr (Or.inr ⟨Or.inl w, w2⟩)
    · exact Or.inr (Or.inr ⟨Or.inr w, w2⟩)
  refine ⟨?_, fun q hq => by have := g2 q hq; omega, fun p q hp hq => ?_, g4, g5, ?_, ?_⟩
  · rintro s t ((((w | ⟨rfl, rfl⟩) | ⟨rfl, rfl⟩) | ⟨rfl, rfl⟩) | ⟨rfl, rfl⟩)
    · have := g1 s t w; omega
    · omega
    · omega
    · omega
    · omega
  · rw [o1 _ _ (by have := g2 p hp; omega) (by have := g2 q hq; omega)]
    exact g3 p q hp hq
  · intro c hc
    rcases List.mem_cons.mp hc with rfl | hc
    · refine ⟨by show n < n + 2; omega, by show n + 1 < n + 2; omega, ?_, fun q hq => ?_, fun q hq => ?_, ?_, or_lt l7 r7, or_lt l8 r8⟩
      · intro t w
        rcases nx _ _ w with w | w | ⟨w, -⟩
        · have := (g1 _ _ w).1
          have : n + 1 < n := this
          omega
        · have : n + 1 = n := w
          omega
        · have : n + 1 = l.2.1 ∨ n + 1 = r.2.1 := w
          omega
      · have := g2 q hq
        show (l.2.2.2.1 ||| r.2.2.2.1).testBit q = true ↔ RT _ n (sq q)
        rw [o2 _ (by omega), ← l4 q hq, ← r4 q hq, Nat.testBit_or, Bool.or_eq_true]
      · have := g2 q hq
        show (l.2.2.2.2 ||| r.2.2.2.2).testBit q = true ↔ RT _ (sq q + 1) (n + 1)
        rw [o3 _ (by omega), ← l5 q hq, ← r5 q hq, Nat.testBit_or, Bool.or_eq_true]
      · show (if r.2.2.1 < l.2.2.1 then r.2.2.1 else l.2.2.1) = 0 ↔ RT _ n (n + 1)
        rw [o4, ← l6, ← r6]
        split <;> omega
    · have h0 := g6 c (List.mem_cons_of_mem _ (List.mem_cons_of_mem _ hc))
      have al := q3 c hc
      have ar := q1 c (List.mem_cons_of_mem _ hc)
      have d1 := h0.1
      have d2 := h0.2.1
      refine h0.move (by omega) ?_ (fun q hq => o1 _ _ d1 (by have := g2 q hq; omega)) (fun q hq => o1 _ _ (by have := g2 q hq; omega) d2) (o1 _ _ d1 d2)
      intro t w
      rcases nx _ _ w with w | w | ⟨w | w, -⟩
      · exact h0.2.2.1 t w
      · omega
      · exact al.2.2 w.symm
      · exact ar.2.2 w.symm
  · refine List.pairwise_cons.mpr ⟨fun d hd => ?_, q4.imp_of_mem ?_⟩
    · have h0 := g6 d (List.mem_cons_of_mem _ (List.mem_cons_of_mem _ hd))
      have al := q3 d hd
      have ar := q1 d (List.mem_cons_of_mem _ hd)
      have d1 := h0.1
      have d2 := h0.2.1
      refine ⟨fun w => ?_, fun w => ?_, by show n + 1 ≠ d.2.1; omega⟩
      · rcases (o2 _ d2).mp w with w | w
        · exact al.1 w
        · exact ar.1 w
      · rcases (o3 _ d1).mp w with w | w
        · exact al.2.1 w
        · exact ar.2.1 w
    · intro c d hc hd ⟨a1, a2, a3⟩
      have c0 := g6 c (List.mem_cons_of_mem _ (List.mem_cons_of_mem _ hc))
      have d0 := g6 d (List.mem_cons_of_mem _ (List.mem_cons_of_mem _ hd))
      exact ⟨fun w => a1 ((o1 _ _ c0.1 d0.2.1).mp w), fun w => a2 ((o1 _ _ d0.1 c0.2.1).mp w), a3⟩
theorem GA_13 {E : Nat → Nat → Prop} {n sp : Nat} {sq fo : Nat → Nat} {T : List FT} {l : FT} (h : GA E n sp sq fo (l :: T)) : GA (starE E n l.1 l.2.1) (n + 2) sp sq (fun p => if l.2.2.2.2.testBit p then fo p ||| l.2.2.2.1 else fo p) ((n, n + 1, 0, l.2.2.2.1, l.2.2.2.2) :: T) := by
  obtain ⟨g1, g2, g3, g4, g5, g6, g7⟩ := h
  obtain ⟨q3, q4⟩ := List.pairwise_cons.mp g7
  obtain ⟨l1, l2, l3, l4, l5, l6, l7, l8⟩ := g6 l List.mem_cons_self
  have k1 : ∀ x, RT E x (n + 1) ↔ x = n + 1 := fun x => RT_snk (fun s h => by have := g1 _ _ h; omega)
  have k2 : ∀ y, RT E n y ↔ n = y := fun x => RT_src (fun s h => by have := g1 _ _ h; omega)
  have R' : ∀ x y, RT (starE E n l.1 l.2.1) x y ↔ RT E x y ∨ (RT E x l.2.1 ∧ RT E l.1 y) ∨ (x = n ∧ (RT E l.1 y ∨ y = n + 1)) ∨ (y = n + 1 ∧ RT E x l.2.1) := fun x y => rt_starE g1 l1 l2
  have o1 : ∀ x y, x < n → y < n → (RT (starE E n l.1 l.2.1) x y ↔ RT E x y ∨ (RT E x l.2.1 ∧ RT E l.1 y)) := fun x y hx hy => by
    rw [R']
    constructor
    · rintro (w | w | ⟨w, -⟩ | ⟨w, -⟩)
      · exact Or.inl w
      · exact Or.inr w
      · omega
      · omega
    · rintro (w | w)
      · exact Or.inl w
      · exact Or.inr (Or.inl w)
  have o2 : ∀ y, y < n → (RT (starE E n l.1 l.2.1) n y ↔ RT E l.1 y) := fun y hy => by
    rw [R', k2, k2]
    constructor
    · rintro (w | ⟨w, -⟩ | ⟨-, w | w⟩ | ⟨w, -⟩)
      · omega
      · omega
      · exact w
      · omega
      · omega
    · exact fun w => Or.inr (Or.inr (Or.inl ⟨rfl, Or.inl w⟩))
  have o3 : ∀ x, x < n → (RT (starE E n l.1 l.2.1) x (n + 1) ↔ RT E x l.2.1) := fun x hx => by
    rw [R', k1, k1]
    constructor
    · rintro (w | ⟨-, w⟩ | ⟨w, -⟩ | ⟨-, w⟩)
      · omega
      · omega
      · omega
      · exact w
    · exact fun w => Or.inr (Or.inr (Or.inr ⟨rfl, w⟩))
  have o4 : RT (starE E n l.1 l.2.1) n (n + 1) := (R' _ _).mpr (Or.inr (Or.inr (Or.inl ⟨rfl, Or.inr rfl⟩)))
  have nx : ∀ s t, starE E n l.1 l.2.1 s t → E s t ∨ s = n ∨ s = l.2.1 := by
    rintro s t ((((w | ⟨w, -⟩) | ⟨w, -⟩) | ⟨w, -⟩) | ⟨w, -⟩)
    · exact Or.inl w
    · exact Or.inr (Or.inl w)
    · exact Or.inr (Or.inl w)
    · exact Or.inr (Or.inr w)
    · exact Or.inr (Or.inr w)
  refine ⟨?_, fun q hq => by have := g2 q hq; omega, fun p q hp hq => ?_, fun p => il (g4 p) l7, fun p hp => ?_, ?_, ?_⟩
  · rintro s t ((((w | ⟨rfl, rfl⟩) | ⟨rfl, rfl⟩) | ⟨rfl, rfl⟩) | ⟨rfl, rfl⟩)
    · have := g1 s t w; omega
    · omega
    · omega
    · omega
    · omega
  · rw [o1 _ _ (by have := g2 p hp; omega) (by have := g2 q hq; omega), ← g3 p q hp hq, ← l5 p hp, ← l4 q hq]
    exact ib
  · show (if l.2.2.2.2.testBit p then fo p ||| l.2.2.2.1 else fo p) = 0
    rw [if_neg (fun w => by have := tb_of_lt l8 w; omega)]
    exact g5 p hp
  · intro c hc
    rcases List.mem_cons.mp hc with rfl | hc
    · refine ⟨by show n < n + 2; omega, by show n + 1 < n + 2; omega, ?_, fun q hq => ?_, fun q hq => ?_, ?_, l7, l8⟩
      · intro t w
        rcases nx _ _ w with w | w | w
        · have := (g1 _ _ w).1
          have : n + 1 < n := this
          omega
        · have : n + 1 = n := w
          omega
        · have : n + 1 = l.2.1 := w
          omega
      · have := g2 q hq
        show l.2.2.2.1.testBit q = true ↔ RT _ n (sq q)
        rw [o2 _ (by omega)]
        exact l4 q hq
      · have := g2 q hq
        show l.2.2.2.2.testBit q = true ↔ RT _ (sq q + 1) (n + 1)
        rw [o3 _ (by omega)]
        exact l5 q hq
      · exact ⟨fun _ => o4, fun _ => rfl⟩
    · have h0 := g6 c (List.mem_cons_of_mem _ hc)
      have al := q3 c hc
      have d1 := h0.1
      have d2 := h0.2.1
      refine h0.move (by omega) ?_ (fun q hq => ?_) (fun q hq => ?_) ?_
      · intro t w
        rcases nx _ _ w with w | w | w
        · exact h0.2.2.1 t w
        · omega
        · exact al.2.2 w.symm
      · rw [o1 _ _ d1 (by have := g2 q hq; omega)]
        exact ⟨fun w => w.elim id (fun w => absurd w.1 al.2.1), Or.inl⟩
      · rw [o1 _ _ (by have := g2 q hq; omega) d2]
        exact ⟨fun w => w.elim id (fun w => absurd w.2 al.1), Or.inl⟩
      · rw [o1 _ _ d1 d2]
        exact ⟨fun w => w.elim id (fun w => absurd w.1 al.2.1), Or.inl⟩
  · refine List.pairwise_cons.mpr ⟨fun d hd => ?_, q4.imp_of_mem ?_⟩
    · have h0 := g6 d (List.mem_cons_of_mem _ hd)
      have al := q3 d hd
      have d1 := h0.1
      have d2 := h0.2.1
      exact ⟨fun w => al.1 ((o2 _ d2).mp w), fun w => al.2.1 ((o3 _ d1).mp w), by show n + 1 ≠ d.2.1; omega⟩
    · intro c d hc hd ⟨a1, a2, a3⟩
      have c0 := g6 c (List.mem_cons_of_mem _ hc)
      have d0 := g6 d (List.mem_cons_of_mem _ hd)
      refine ⟨fun w => ?_, fun w => ?_, a3⟩
      · rcases (o1 _ _ c0.1 d0.2.1).mp w with w | ⟨w, -⟩
        · exact a1 w
        · exact (q3 c hc).2.1 w
      · rcases (o1 _ _ d0.1 c0.2.1).mp w with w | ⟨w, -⟩
        · exact a2 w
        · exact (q3 d hd).2.1 w
