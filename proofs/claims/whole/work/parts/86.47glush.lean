/-! two automata of one form -/
def RT (E : Nat → Nat → Prop) (x y : Nat) : Prop := ∀ C : Nat → Prop, C x → (∀ s t, C s → E s t → C t) → C y
theorem RT.rf (E : Nat → Nat → Prop) (x : Nat) : RT E x x := fun _ h _ => h
theorem RT.step {E : Nat → Nat → Prop} {x s t : Nat} (h : RT E x s) (e : E s t) : RT E x t := fun C h0 hs => hs s t (h C h0 hs) e
theorem RT.trans {E : Nat → Nat → Prop} {x y z : Nat} (h : RT E x y) (g : RT E y z) : RT E x z := fun C h0 hs => g C (h C h0 hs) hs
theorem RT.mono {E E' : Nat → Nat → Prop} {x y : Nat} (h : RT E x y) (m : ∀ s t, E s t → E' s t) : RT E' x y := fun C h0 hs => h C h0 (fun s t hc he => hs s t hc (m s t he))
def adE (E : Nat → Nat → Prop) (a b : Nat) : Nat → Nat → Prop := fun s t => E s t ∨ (s = a ∧ t = b)
theorem RT_ad {E : Nat → Nat → Prop} {a b x y : Nat} : RT (adE E a b) x y ↔ RT E x y ∨ (RT E x a ∧ RT E b y) := by
  constructor
  · intro h
    refine h (fun y => RT E x y ∨ (RT E x a ∧ RT E b y)) (Or.inl (RT.rf _ _)) ?_
    rintro s t hc (he | ⟨rfl, rfl⟩)
    · rcases hc with q | ⟨q1, q2⟩
      · exact Or.inl (q.step he)
      · exact Or.inr ⟨q1, q2.step he⟩
    · rcases hc with q | ⟨q1, q2⟩
      · exact Or.inr ⟨q, RT.rf _ _⟩
      · exact Or.inr ⟨q1, RT.rf _ _⟩
  · have m : ∀ s t, E s t → adE E a b s t := fun s t h => Or.inl h
    rintro (h | ⟨h1, h2⟩)
    · exact h.mono m
    · exact ((h1.mono m).step (Or.inr ⟨rfl, rfl⟩)).trans (h2.mono m)
theorem RT_src {E : Nat → Nat → Prop} {x y : Nat} (h : ∀ t, ¬ E x t) : RT E x y ↔ x = y := by
  constructor
  · intro q
    refine (q (fun z => z = x) rfl ?_).symm
    rintro s t rfl he
    exact absurd he (h t)
  · rintro rfl; exact RT.rf _ _
theorem RT_snk {E : Nat → Nat → Prop} {x y : Nat} (h : ∀ s, ¬ E s y) : RT E x y ↔ x = y := by
  constructor
  · intro q
    refine q (fun z => z = y → x = y) id ?_ rfl
    rintro s t - he rfl
    exact absurd he (h s)
  · rintro rfl; exact RT.rf _ _
def SN (ns : List ND) : Nat → Nat
  | 0 => 0
  | j + 1 => SN ns j + (if (ndAt ns j).1 = 11 then 0 else 2)
def SP (ns : List ND) : Nat → Nat
  | 0 => 0
  | j + 1 => SP ns j + (if (ndAt ns j).1 < 10 then 1 else 0)
def SQ (ns : List ND) : Nat → Nat → Nat
  | 0 => fun _ => 0
  | j + 1 => fun q => if (ndAt ns j).1 < 10 ∧ q = SP ns j then SN ns j else SQ ns j q
def LQ (ns : List ND) : Nat → Nat → Nat
  | 0 => fun _ => 0
  | j + 1 => fun q => if (ndAt ns j).1 < 10 ∧ q = SP ns j then (ndAt ns j).1 else LQ ns j q
def FI (ns : List ND) : Nat → Nat → Nat
  | 0 => fun _ => 0
  | j + 1 => fun a => if a = j then (if (ndAt ns j).1 = 11 then FI ns j (ndAt ns j).2.1 else SN ns j) else FI ns j a
def LA (ns : List ND) : Nat → Nat → Nat
  | 0 => fun _ => 0
  | j + 1 => fun a => if a = j then (if (ndAt ns j).1 = 11 then LA ns j (ndAt ns j).2.2 else SN ns j + 1) else LA ns j a
def fmV (nd : ND) (sp : Nat) (lt f : Nat → Nat) : Nat := if nd.1 < 10 then 2 ^ sp else if nd.1 = 10 then 0 else if nd.1 = 11 then (if lt nd.2.1 = 0 then f nd.2.1 ||| f nd.2.2 else f nd.2.1) else if nd.1 = 12 then f nd.2.1 ||| f nd.2.2 else f nd.2.1
def lmV (nd : ND) (sp : Nat) (lt f : Nat → Nat) : Nat := if nd.1 < 10 then 2 ^ sp else if nd.1 = 10 then 0 else if nd.1 = 11 then (if lt nd.2.2 = 0 then f nd.2.2 ||| f nd.2.1 else f nd.2.2) else if nd.1 = 12 then f nd.2.1 ||| f nd.2.2 else f nd.2.1
def FM (ns : List ND) : Nat → Nat → Nat
  | 0 => fun _ => 0
  | j + 1 => fun a => if a = j then fmV (ndAt ns j) (SP ns j) (LT ns j) (FM ns j) else FM ns j a
def LM (ns : List ND) : Nat → Nat → Nat
  | 0 => fun _ => 0
  | j + 1 => fun a => if a = j then lmV (ndAt ns j) (SP ns j) (LT ns j) (LM ns j) else LM ns j a
def FO (ns : List ND) : Nat → Nat → Nat
  | 0 => fun _ => 0
  | j + 1 => fun p => if (ndAt ns j).1 = 11 then (if (LM ns j (ndAt ns j).2.1).testBit p then FO ns j p ||| FM ns j (ndAt ns j).2.2 else FO ns j p) else if (ndAt ns j).1 = 13 then (if (LM ns j (ndAt ns j).2.1).testBit p then FO ns j p ||| FM ns j (ndAt ns j).2.1 else FO ns j p) else FO ns j p
def sumE (E : Nat → Nat → Prop) (n f1 f2 l1 l2 : Nat) : Nat → Nat → Prop := adE (adE (adE (adE E n f1) n f2) l1 (n + 1)) l2 (n + 1)
def starE (E : Nat → Nat → Prop) (n f l : Nat) : Nat → Nat → Prop := adE (adE (adE (adE E n f) n (n + 1)) l f) l (n + 1)
def EG (ns : List ND) : Nat → Nat → Nat → Prop
  | 0 => fun _ _ => False
  | j + 1 => if (ndAt ns j).1 = 10 then adE (EG ns j) (SN ns j) (SN ns j + 1) else if (ndAt ns j).1 = 11 then adE (EG ns j) (LA ns j (ndAt ns j).2.1) (FI ns j (ndAt ns j).2.2) else if (ndAt ns j).1 = 12 then sumE (EG ns j) (SN ns j) (FI ns j (ndAt ns j).2.1) (FI ns j (ndAt ns j).2.2) (LA ns j (ndAt ns j).2.1) (LA ns j (ndAt ns j).2.2) else if (ndAt ns j).1 = 13 then starE (EG ns j) (SN ns j) (FI ns j (ndAt ns j).2.1) (LA ns j (ndAt ns j).2.1) else EG ns j
abbrev FT : Type := Nat × Nat × Nat × Nat × Nat
/-- one part of the automaton -/
def FRG (E : Nat → Nat → Prop) (n sp : Nat) (sq : Nat → Nat) (c : FT) : Prop := c.1 < n ∧ c.2.1 < n ∧ (∀ t, ¬ E c.2.1 t) ∧ (∀ q, q < sp → (c.2.2.2.1.testBit q = true ↔ RT E c.1 (sq q))) ∧ (∀ q, q < sp → (c.2.2.2.2.testBit q = true ↔ RT E (sq q + 1) c.2.1)) ∧ (c.2.2.1 = 0 ↔ RT E c.1 c.2.1) ∧ c.2.2.2.1 < 2 ^ sp ∧ c.2.2.2.2 < 2 ^ sp
/-- two parts apart -/
def APT (E : Nat → Nat → Prop) (c d : FT) : Prop := ¬ RT E c.1 d.2.1 ∧ ¬ RT E d.1 c.2.1 ∧ c.2.1 ≠ d.2.1
def GA (E : Nat → Nat → Prop) (n sp : Nat) (sq fo : Nat → Nat) (T : List FT) : Prop := (∀ s t, E s t → s < n ∧ t < n) ∧ (∀ q, q < sp → sq q + 1 < n) ∧ (∀ p q, p < sp → q < sp → ((fo p).testBit q = true ↔ RT E (sq p + 1) (sq q))) ∧ (∀ p, fo p < 2 ^ sp) ∧ (∀ p, sp ≤ p → fo p = 0) ∧ (∀ c ∈ T, FRG E n sp sq c) ∧ T.Pairwise (APT E)
theorem rt_sumE {E : Nat → Nat → Prop} {n f1 f2 l1 l2 x y : Nat} (hE : ∀ s t, E s t → s < n ∧ t < n) (h1 : f1 < n) (h2 : f2 < n) (h3 : l1 < n) (h4 : l2 < n) : RT (sumE E n f1 f2 l1 l2) x y ↔ RT E x y ∨ (x = n ∧ (RT E f1 y ∨ RT E f2 y)) ∨ (y = n + 1 ∧ (RT E x l1 ∨ RT E x l2)) ∨ (x = n ∧ y = n + 1 ∧ (RT E f1 l1 ∨ RT E f2 l1 ∨ RT E f1 l2 ∨ RT E f2 l2)) := by
  have c1 : ∀ x, RT E x n ↔ x = n := fun x => RT_snk (fun s h => by have := hE _ _ h; omega)
  have c2 : ∀ x, RT E x (n + 1) ↔ x = n + 1 := fun x => RT_snk (fun s h => by have := hE _ _ h; omega)
  have r1 : ∀ y, RT E n y ↔ n = y := fun x => RT_src (fun s h => by have := hE _ _ h; omega)
  have r2 : ∀ y, RT E (n + 1) y ↔ n + 1 = y := fun x => RT_src (fun s h => by have := hE _ _ h; omega)
  unfold sumE
  simp only [RT_ad, c1, c2, r1, r2]
  grind
theorem rt_starE {E : Nat → Nat → Prop} {n f l x y : Nat} (hE : ∀ s t, E s t → s < n ∧ t < n) (h1 : f < n) (h3 : l < n) : RT (starE E n f l) x y ↔ RT E x y ∨ (RT E x l ∧ RT E f y) ∨ (x = n ∧ (RT E f y ∨ y = n + 1)) ∨ (y = n + 1 ∧ RT E x l) := by
  have c1 : ∀ x, RT E x n ↔ x = n := fun x => RT_snk (fun s h => by have := hE _ _ h; omega)
  have c2 : ∀ x, RT E x (n + 1) ↔ x = n + 1 := fun x => RT_snk (fun s h => by have := hE _ _ h; omega)
  have r1 : ∀ y, RT E n y ↔ n = y := fun x => RT_src (fun s h => by have := hE _ _ h; omega)
  have r2 : ∀ y, RT E (n + 1) y ↔ n + 1 = y := fun x => RT_src (fun s h => by have := hE _ _ h; omega)
  unfold starE
  simp only [RT_ad, c1, c2, r1, r2]
  grind
theorem FRG.move {E E' : Nat → Nat → Prop} {n n' sp : Nat} {sq : Nat → Nat} {c : FT} (h : FRG E n sp sq c) (hn : n ≤ n') (no : ∀ t, ¬ E' c.2.1 t) (hf : ∀ q, q < sp → (RT E' c.1 (sq q) ↔ RT E c.1 (sq q))) (hl : ∀ q, q < sp → (RT E' (sq q + 1) c.2.1 ↔ RT E (sq q + 1) c.2.1)) (hfl : RT E' c.1 c.2.1 ↔ RT E c.1 c.2.1) : FRG E' n' sp sq c := by
  obtain ⟨h1, h2, h3, h4, h5, h6, h7, h8⟩ := h
  exact ⟨by omega, by omega, no, fun q hq => (h4 q hq).trans (hf q hq).symm, fun q hq => (h5 q hq).trans (hl q hq).symm, h6.trans hfl.symm, h7, h8⟩
theorem zb (q : Nat) : ¬ (0 : Nat).testBit q = true := by rw [Nat.zero_testBit]; exact Bool.false_ne_true
theorem GA_10 {E : Nat → Nat → Prop} {n sp : Nat} {sq fo : Nat → Nat} {T : List FT} (h : GA E n sp sq fo T) : GA (adE E n (n + 1)) (n + 2) sp sq fo ((n, n + 1, 0, 0, 0) :: T) := by
  obtain ⟨g1, g2, g3, g4, g5, g6, g7⟩ := h
  have c1 : ∀ x, RT E x n ↔ x = n := fun x => RT_snk (fun s h => by have := g1 _ _ h; omega)
  have c2 : ∀ x, RT E x (n + 1) ↔ x = n + 1 := fun x => RT_snk (fun s h => by have := g1 _ _ h; omega)
  have r1 : ∀ y, RT E n y ↔ n = y := fun x => RT_src (fun s h => by have := g1 _ _ h; omega)
  have r2 : ∀ y, RT E (n + 1) y ↔ n + 1 = y := fun x => RT_src (fun s h => by have := g1 _ _ h; omega)
  have R' : ∀ x y, RT (adE E n (n + 1)) x y ↔ RT E x y ∨ (x = n ∧ n + 1 = y) := fun x y => by rw [RT_ad, c1, r2]
  have old : ∀ x y, x < n → (RT (adE E n (n + 1)) x y ↔ RT E x y) := fun x y hx => by
    rw [R']
    exact ⟨fun q => q.elim id (fun w => by omega), Or.inl⟩
  refine ⟨?_, fun q hq => by have := g2 q hq; omega, fun p q hp hq => by rw [old _ _ (by have := g2 p hp; omega)]; exact g3 p q hp hq, g4, g5, ?_, ?_⟩
  · rintro s t (h | ⟨rfl, rfl⟩)
    · have := g1 s t h; omega
    · omega
  · intro c hc
    rcases List.mem_cons.mp hc with rfl | hc
    · refine ⟨by show n < n + 2; omega, by show n + 1 < n + 2; omega, ?_, fun q hq => ?_, fun q hq => ?_, ?_, Nat.two_pow_pos _, Nat.two_pow_pos _⟩
      · rintro t (h | ⟨h, -⟩)
        · have := g1 _ _ h
          have : n + 1 < n := this.1
          omega
        · have : n + 1 = n := h
          omega
      · have := g2 q hq
        refine ⟨fun w => absurd w (zb q), fun w => ?_⟩
        have w2 := (R' n (sq q)).mp w
        rw [r1] at w2
        omega
      · have := g2 q hq
        refine ⟨fun w => absurd w (zb q), fun w => ?_⟩
        have w2 := (R' (sq q + 1) (n + 1)).mp w
        rw [c2] at w2
        omega
      · exact ⟨fun _ => (R' n (n + 1)).mpr (Or.inr ⟨rfl, rfl⟩), fun _ => rfl⟩
    · have h0 := g6 c hc
      refine h0.move (by omega) ?_ (fun q hq => old _ _ h0.1) (fun q hq => old _ _ (by have := g2 q hq; omega)) (old _ _ h0.1)
      rintro t (h | ⟨h, -⟩)
      · exact h0.2.2.1 t h
      · have := h0.2.1; omega
  · refine List.pairwise_cons.mpr ⟨fun d hd => ?_, g7.imp_of_mem ?_⟩
    · have h0 := g6 d hd
      have d1 := h0.1
      have d2 := h0.2.1
      refine ⟨fun w => ?_, fun w => ?_, by show n + 1 ≠ d.2.1; omega⟩
      · have w2 := (R' n d.2.1).mp w
        rw [r1] at w2
        omega
      · have w2 := (R' d.1 (n + 1)).mp w
        rw [c2] at w2
        omega
    · intro c d hc hd ⟨a1, a2, a3⟩
      exact ⟨fun w => a1 ((old _ _ (g6 c hc).1).mp w), fun w => a2 ((old _ _ (g6 d hd).1).mp w), a3⟩
theorem GA_lt {E : Nat → Nat → Prop} {n sp : Nat} {sq fo : Nat → Nat} {T : List FT} (h : GA E n sp sq fo T) : GA E (n + 2) (sp + 1) (fun q => if q = sp then n else sq q) fo ((n, n + 1, 1, 2 ^ sp, 2 ^ sp) :: T) := by
  obtain ⟨g1, g2, g3, g4, g5, g6, g7⟩ := h
  have c1 : ∀ x, RT E x n ↔ x = n := fun x => RT_snk (fun s h => by have := g1 _ _ h; omega)
  have c2 : ∀ x, RT E x (n + 1) ↔ x = n + 1 := fun x => RT_snk (fun s h => by have := g1 _ _ h; omega)
  have r1 : ∀ y, RT E n y ↔ n = y := fun x => RT_src (fun s h => by have := g1 _ _ h; omega)
  have r2 : ∀ y, RT E (n + 1) y ↔ n + 1 = y := fun x => RT_src (fun s h => by have := g1 _ _ h; omega)
  have p2 : 2 ^ sp < 2 ^ (sp + 1) := Nat.pow_lt_pow_right (by decide) (by omega)
  have e1 : ∀ q, q ≠ sp → (if q = sp then n else sq q) = sq q := fun q hq => if_neg hq
  have e0 : (if sp = sp then n else sq sp) = n := if_pos rfl
  refine ⟨fun s t h => by have := g1 s t h; omega, fun q hq => ?_, fun p q hp hq => ?_, fun p => Nat.lt_trans (g4 p) p2, fun p hp => g5 p (by omega), ?_, ?_⟩
  · show (if q = sp then n else sq q) + 1 < n + 2
    by_cases e : q = sp
    · rw [if_pos e]; omega
    · rw [if_neg e]; have := g2 q (by omega); omega
  · show (fo p).testBit q = true ↔ RT E ((if p = sp then n else sq p) + 1) (if q = sp then n else sq q)
    by_cases ep : p = sp
    · rw [if_pos ep, r2, g5 p (by omega)]
      refine ⟨fun w => absurd w (zb q), fun w => ?_⟩
      by_cases e : q = sp
      · rw [if_pos e] at w; omega
      · rw [if_neg e] at w; have := g2 q (by omega); omega
    · rw [if_neg ep]
      have hp2 := g2 p (by omega)
      by_cases e : q = sp
      · rw [if_pos e, c1]
        refine ⟨fun w => ?_, fun w => by omega⟩
        have := tb_of_lt (g4 p) w
        omega
      · rw [if_neg e]
        exact g3 p q (by omega) (by omega)
  · intro c hc
    rcases List.mem_cons.mp hc with rfl | hc
    · refine ⟨by show n < n + 2; omega, by show n + 1 < n + 2; omega, ?_, fun q hq => ?_, fun q hq => ?_, ?_, p2, p2⟩
      · intro t h
        have : n + 1 < n := (g1 _ _ h).1
        omega
      · show (2 ^ sp).testBit q = true ↔ RT E n (if q = sp then n else sq q)
        rw [Nat.testBit_two_pow, r1, decide_eq_true_iff]
        by_cases e : q = sp
        · rw [if_pos e]; exact ⟨fun _ => rfl, fun _ => e.symm⟩
        · rw [if_neg e]; have := g2 q (by omega); omega
      · show (2 ^ sp).testBit q = true ↔ RT E ((if q = sp then n else sq q) + 1) (n + 1)
        rw [Nat.testBit_two_pow, c2, decide_eq_true_iff]
        by_cases e : q = sp
        · rw [if_pos e]; exact ⟨fun _ => rfl, fun _ => e.symm⟩
        · rw [if_neg e]; have := g2 q (by omega); omega
      · show (1 = 0) ↔ RT E n (n + 1)
        rw [r1]; omega
    · obtain ⟨h1, h2, h3, h4, h5, h6, h7, h8⟩ := g6 c hc
      refine ⟨by omega, by omega, h3, fun q hq => ?_, fun q hq => ?_, h6, Nat.lt_trans h7 p2, Nat.lt_trans h8 p2⟩
      · show c.2.2.2.1.testBit q = true ↔ RT E c.1 (if q = sp then n else sq q)
        by_cases e : q = sp
        · rw [if_pos e, c1]
          refine ⟨fun w => ?_, fun w => by omega⟩
          have := tb_of_lt h7 w
          omega
        · rw [if_neg e]; exact h4 q (by omega)
      · show c.2.2.2.2.testBit q = true ↔ RT E ((if q = sp then n else sq q) + 1) c.2.1
        by_cases e : q = sp
        · rw [if_pos e, r2]
          refine ⟨fun w => ?_, fun w => by omega⟩
          have := tb_of_lt h8 w
          omega
        · rw [if_neg e]; exact h5 q (by omega)
  · refine List.pairwise_cons.mpr ⟨fun d hd => ?_, g7⟩
    have h0 := g6 d hd
    have d1 := h0.1
    have d2 := h0.2.1
    refine ⟨fun w => ?_, fun w => ?_, by show n + 1 ≠ d.2.1; omega⟩
    · have w2 := (r1 d.2.1).mp w
      omega
    · have w2 := (c2 d.1).mp w
      omega
theorem ib {P : Prop} {i : Decidable P} {a b q : Nat} : (if P then a ||| b else a).testBit q = true ↔ a.testBit q = true ∨ (P ∧ b.testBit q = true) := by
  by_cases h : P
  · rw [if_pos h, Nat.testBit_or, Bool.or_eq_true]; simp [h]
  · rw [if_neg h]; simp [h]
theorem il {P : Prop} {i : Decidable P} {a b k : Nat} (ha : a < 2 ^ k) (hb : b < 2 ^ k) : (if P then a ||| b else a) < 2 ^ k := by
  split
  · exact or_lt ha hb
  · exact ha
theorem GA_11 {E : Nat → Nat → Prop} {n sp : Nat} {sq fo : Nat → Nat} {T : List FT} {l r : FT} (h : GA E n sp sq fo (r :: l :: T)) : GA (adE E l.2.1 r.1) n sp sq (fun p => if l.2.2.2.2.testBit p then fo p ||| r.2.2.2.1 else fo p) ((l.1, r.2.1, l.2.2.1 + r.2.2.1, (if l.2.2.1 = 0 then l.2.2.2.1 ||| r.2.2.2.1 else l.2.2.2.1), (if r.2.2.1 = 0 then r.2.2.2.2 ||| l.2.2.2.2 else r.2.2.2.2)) :: T) := by
  obtain ⟨g1, g2, g3, g4, g5, g6, g7⟩ := h
  obtain ⟨q1, q2⟩ := List.pairwise_cons.mp g7
  obtain ⟨q3, q4⟩ := List.pairwise_cons.mp q2
  have arl := q1 l List.mem_cons_self
  obtain ⟨r1, r2, r3, r4, r5, r6, r7, r8⟩ := g6 r List.mem_cons_self
  obtain ⟨l1, l2, l3, l4, l5, l6, l7, l8⟩ := g6 l (List.mem_cons_of_mem _ List.mem_cons_self)
  have R' : ∀ x y, RT (adE E l.2.1 r.1) x y ↔ RT E x y ∨ (RT E x l.2.1 ∧ RT E r.1 y) := fun x y => RT_ad
  refine ⟨?_, g2, fun p q hp hq => ?_, fun p => ?_, fun p hp => ?_, ?_, ?_⟩
  · rintro s t (h | ⟨rfl, rfl⟩)
    · exact g1 s t h
    · exact ⟨l2, r1⟩
  · rw [R', ← g3 p q hp hq, ← l5 p hp, ← r4 q hq]
    exact ib
  · exact il (g4 p) r7
  · show (if l.2.2.2.2.testBit p then fo p ||| r.2.2.2.1 else fo p) = 0
    rw [if_neg (fun w => by have := tb_of_lt l8 w; omega)]
    exact g5 p hp
  · intro c hc
    rcases List.mem_cons.mp hc with rfl | hc
    · refine ⟨l1, r2, ?_, fun q hq => ?_, fun q hq => ?_, ?_, il l7 r7, il r8 l8⟩
      · rintro t (h | ⟨h, -⟩)
        · exact r3 t h
        · exact arl.2.2 h
      · rw [R', ← l4 q hq, ← l6, ← r4 q hq]
        exact ib
      · rw [R', ← r5 q hq, ← l5 q hq, ← r6]
        refine ib.trans ?_
        rw [and_comm]
      · rw [R', ← l6, ← r6]
        have := arl.2.1
        show l.2.2.1 + r.2.2.1 = 0 ↔ _
        constructor
        · intro w; exact Or.inr ⟨by omega, by omega⟩
        · rintro (w | ⟨w1, w2⟩)
          · exact absurd w this
          · omega
    · have h0 := g6 c (List.mem_cons_of_mem _ (List.mem_cons_of_mem _ hc))
      have ac := q3 c hc
      have arc := q1 c (List.mem_cons_of_mem _ hc)
      refine h0.move (Nat.le_refl _) ?_ (fun q hq => ?_) (fun q hq => ?_) ?_
      · rintro t (h | ⟨h, -⟩)
        · exact h0.2.2.1 t h
        · exact ac.2.2 h.symm
      · rw [R']
        exact ⟨fun w => w.elim id (fun w => absurd w.1 ac.2.1), Or.inl⟩
      · rw [R']
        exact ⟨fun w => w.elim id (fun w => absurd w.2 arc.1), Or.inl⟩
      · rw [R']
        exact ⟨fun w => w.elim id (fun w => absurd w.1 ac.2.1), Or.inl⟩
  · refine List.pairwise_cons.mpr ⟨fun d hd => ?_, q4.imp_of_mem ?_⟩
    · have al := q3 d hd
      have ar := q1 d (List.mem_cons_of_mem _ hd)
      refine ⟨fun w => ?_, fun w => ?_, ar.2.2⟩
      · rcases (R' _ _).mp w with w | ⟨-, w⟩
        · exact al.1 w
        · exact ar.1 w
      · rcases (R' _ _).mp w with w | ⟨w, -⟩
        · exact ar.2.1 w
        · exact al.2.1 w
    · intro c d hc hd ⟨a1, a2, a3⟩
      refine ⟨fun w => ?_, fun w => ?_, a3⟩
      · rcases (R' _ _).mp w with w | ⟨w, -⟩
        · exact a1 w
        · exact (q3 c hc).2.1 w
      · rcases (R' _ _).mp w with w | ⟨w, -⟩
        · exact a2 w
        · exact (q3 d hd).2.1 w
