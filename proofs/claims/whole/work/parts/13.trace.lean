/-! words some of whose letters commute: taking a letter away from the front, likeness by projections, normal forms, common beginnings -/
def rmv (ind : Nat → Nat → Bool) (x : Nat) : List Nat → Option (List Nat)
  | [] => none
  | y :: ys => if y = x then some ys else if ind y x = true then (rmv ind x ys).map (fun r => y :: r) else none
def pj (a b : Nat) (u : List Nat) : List Nat := u.filter (fun c => c == a || c == b)
def Eqv (ind : Nat → Nat → Bool) (u w : List Nat) : Prop := ∀ a b, ind a b = false → pj a b u = pj a b w
theorem pj_nil (a b : Nat) : pj a b [] = [] := rfl
theorem pj_cons (a b c : Nat) (u : List Nat) : pj a b (c :: u) = if c = a ∨ c = b then c :: pj a b u else pj a b u := by
  unfold pj
  rw [List.filter_cons]
  by_cases h : c = a ∨ c = b
  · rw [if_pos h, if_pos (by rcases h with h | h <;> simp [h])]
  · rw [if_neg h, if_neg (by simp; exact ⟨fun q => h (Or.inl q), fun q => h (Or.inr q)⟩)]
theorem pj_app (a b : Nat) (u w : List Nat) : pj a b (u ++ w) = pj a b u ++ pj a b w := by
  unfold pj
  exact List.filter_append ..
theorem Eqv.rf {ind : Nat → Nat → Bool} (u : List Nat) : Eqv ind u u := fun _ _ _ => rfl
theorem Eqv.sy {ind : Nat → Nat → Bool} {u w : List Nat} (h : Eqv ind u w) : Eqv ind w u := fun a b q => (h a b q).symm
theorem Eqv.tr {ind : Nat → Nat → Bool} {u w v : List Nat} (h : Eqv ind u w) (h2 : Eqv ind w v) : Eqv ind u v := fun a b q => (h a b q).trans (h2 a b q)
theorem Eqv.cons {ind : Nat → Nat → Bool} {u w : List Nat} (x : Nat) (h : Eqv ind u w) : Eqv ind (x :: u) (x :: w) := fun a b q => by rw [pj_cons, pj_cons, h a b q]
theorem Eqv.uncons {ind : Nat → Nat → Bool} {u w : List Nat} {x : Nat} (h : Eqv ind (x :: u) (x :: w)) : Eqv ind u w := fun a b q => by
  have h1 := h a b q
  rw [pj_cons, pj_cons] at h1
  split at h1
  · exact List.tail_eq_of_cons_eq h1
  · exact h1
theorem Eqv.app {ind : Nat → Nat → Bool} {u w u2 w2 : List Nat} (h : Eqv ind u w) (h2 : Eqv ind u2 w2) : Eqv ind (u ++ u2) (w ++ w2) := fun a b q => by rw [pj_app, pj_app, h a b q, h2 a b q]
theorem Eqv.nil {ind : Nat → Nat → Bool} (irr : ∀ a, ind a a = false) {w : List Nat} (h : Eqv ind [] w) : w = [] := by
  cases w with
  | nil => rfl
  | cons y ys =>
    have h1 := h y y (irr y)
    rw [pj_nil, pj_cons, if_pos (Or.inl rfl)] at h1
    cases h1
section TRACE
variable {ind : Nat → Nat → Bool} (irr : ∀ a, ind a a = false) (sym : ∀ a b, ind a b = ind b a)
theorem rmv_swap (a b x y : Nat) (u : List Nat) (hxy : ¬ y = x) (hi : ind y x = true) (hd : ind a b = false) (sy : ∀ a b, ind a b = ind b a) : pj a b (x :: y :: u) = pj a b (y :: x :: u) := by
  rw [pj_cons, pj_cons, pj_cons, pj_cons]
  by_cases h1 : x = a ∨ x = b
  · by_cases h2 : y = a ∨ y = b
    · exfalso
      rcases h1 with rfl | rfl <;> rcases h2 with rfl | rfl
      · exact hxy rfl
      · rw [sy] at hi; rw [hi] at hd; cases hd
      · rw [hi] at hd; cases hd
      · exact hxy rfl
    · rw [if_pos h1, if_neg h2, if_neg h2]
      rw [if_pos h1]
  · rw [if_neg h1, if_neg h1]
theorem rmv_eqv (sy : ∀ a b, ind a b = ind b a) : ∀ (w : List Nat) (x : Nat) (r : List Nat), rmv ind x w = some r → Eqv ind (x :: r) w
  | [], x, r, h => by cases h
  | y :: ys, x, r, h => by
    unfold rmv at h
    split at h
    · rename_i e
      cases h
      rw [e]
      exact Eqv.rf _
    · rename_i hne
      split at h
      · rename_i hi
        cases hr : rmv ind x ys with
        | none => rw [hr] at h; cases h
        | some r' =>
          rw [hr] at h
          cases h
          have ih := rmv_eqv sy ys x r' hr
          intro a b hd
          rw [rmv_swap a b x y r' hne hi hd sy, pj_cons, pj_cons a b y ys, ih a b hd]
      · cases h
theorem mem_split : ∀ (w : List Nat) (x : Nat), x ∈ w → ∃ p q, w = p ++ x :: q ∧ x ∉ p
  | [], x, h => absurd h List.not_mem_nil
  | y :: ys, x, h => by
    by_cases e : y = x
    · exact ⟨[], ys, by rw [e]; rfl, List.not_mem_nil⟩
    · have h2 : x ∈ ys := by
        rcases List.mem_cons.mp h with q | q
        · exact absurd q.symm e
        · exact q
      obtain ⟨p, q, h3, h4⟩ := mem_split ys x h2
      refine ⟨y :: p, q, by rw [h3]; rfl, fun hm => ?_⟩
      rcases List.mem_cons.mp hm with q | q
      · exact e q.symm
      · exact h4 q
theorem rmv_app : ∀ (p q : List Nat) (x : Nat), x ∉ p → (∀ y ∈ p, ind y x = true) → rmv ind x (p ++ x :: q) = some (p ++ q)
  | [], q, x, _, _ => by simp [rmv]
  | y :: p, q, x, hx, hi => by
    have e : ¬ y = x := fun e => hx (by rw [e]; exact List.mem_cons_self)
    have ih := rmv_app p q x (fun h => hx (List.mem_cons_of_mem _ h)) (fun z hz => hi z (List.mem_cons_of_mem _ hz))
    rw [List.cons_append, rmv, if_neg e, if_pos (hi y List.mem_cons_self), ih]
    rfl
theorem pj_head (p q : List Nat) (x y : Nat) (hx : x ∉ p) (hy : y ∈ p) : ∃ t, pj x y (p ++ x :: q) = y :: t := by
  obtain ⟨p1, p2, h1, h2⟩ := mem_split p y hy
  rw [h1]
  have h3 : pj x y p1 = [] := by
    unfold pj
    rw [List.filter_eq_nil_iff]
    intro c hc
    simp
    exact ⟨fun e => hx (by rw [h1, ← e]; exact List.mem_append_left _ hc), fun e => h2 (by rw [← e]; exact hc)⟩
  refine ⟨pj x y (p2 ++ x :: q), ?_⟩
  rw [List.append_assoc, pj_app, h3, List.cons_append, pj_cons, if_pos (Or.inr rfl)]
  rfl
theorem rmv_of (irr : ∀ a, ind a a = false) (sy : ∀ a b, ind a b = ind b a) {w : List Nat} {x : Nat} {r : List Nat} (h : Eqv ind (x :: r) w) : ∃ r', rmv ind x w = some r' ∧ Eqv ind r r' := by
  have hm : x ∈ w := by
    have h1 := h x x (irr x)
    rw [pj_cons, if_pos (Or.inl rfl)] at h1
    have h2 : x ∈ pj x x w := by rw [← h1]; exact List.mem_cons_self
    unfold pj at h2
    exact (List.mem_filter.mp h2).1
  obtain ⟨p, q, h1, h2⟩ := mem_split w x hm
  have h3 : ∀ y ∈ p, ind y x = true := by
    intro y hy
    cases hi : ind y x with
    | true => rfl
    | false =>
      exfalso
      obtain ⟨t, ht⟩ := pj_head p q x y h2 hy
      have h4 := h x y (by rw [sy]; exact hi)
      rw [h1, ht, pj_cons, if_pos (Or.inl rfl)] at h4
      have h5 := List.head_eq_of_cons_eq h4
      exact h2 (by rw [h5]; exact hy)
  have h6 := rmv_app (ind := ind) p q x h2 h3
  rw [← h1] at h6
  exact ⟨p ++ q, h6, ((h.tr (rmv_eqv sy w x (p ++ q) h6).sy)).uncons⟩
theorem rmv_none (irr : ∀ a, ind a a = false) (sy : ∀ a b, ind a b = ind b a) {u w : List Nat} (h : Eqv ind u w) (x : Nat) : (rmv ind x u = none ∧ rmv ind x w = none) ∨ ∃ r r', rmv ind x u = some r ∧ rmv ind x w = some r' ∧ Eqv ind r r' := by
  cases h1 : rmv ind x u with
  | some r =>
    obtain ⟨r', h2, h3⟩ := rmv_of irr sy ((rmv_eqv sy u x r h1).tr h)
    exact Or.inr ⟨r, r', rfl, h2, h3⟩
  | none =>
    cases h2 : rmv ind x w with
    | none => exact Or.inl ⟨rfl, rfl⟩
    | some r' =>
      obtain ⟨r, h3, -⟩ := rmv_of irr sy ((rmv_eqv sy w x r' h2).tr h.sy)
      rw [h1] at h3
      cases h3
def dvd (ind : Nat → Nat → Bool) : List Nat → List Nat → Option (List Nat)
  | [], w => some w
  | x :: u, w => match rmv ind x w with
    | none => none
    | some r => dvd ind u r
theorem dvd_eqv (sy : ∀ a b, ind a b = ind b a) : ∀ (u w r : List Nat), dvd ind u w = some r → Eqv ind (u ++ r) w
  | [], w, r, h => by cases h; exact Eqv.rf _
  | x :: u, w, r, h => by
    unfold dvd at h
    split at h
    · cases h
    · rename_i r1 hr
      exact (Eqv.cons x (dvd_eqv sy u r1 r h)).tr (rmv_eqv sy w x r1 hr)
theorem dvd_of (irr : ∀ a, ind a a = false) (sy : ∀ a b, ind a b = ind b a) : ∀ (u w r : List Nat), Eqv ind (u ++ r) w → ∃ r', dvd ind u w = some r' ∧ Eqv ind r r'
  | [], w, r, h => ⟨w, rfl, h⟩
  | x :: u, w, r, h => by
    obtain ⟨r1, h1, h2⟩ := rmv_of irr sy (x := x) (r := u ++ r) h
    obtain ⟨r', h3, h4⟩ := dvd_of irr sy u r1 r h2
    exact ⟨r', by rw [dvd, h1]; exact h3, h4⟩
theorem dvd_nil (irr : ∀ a, ind a a = false) (sy : ∀ a b, ind a b = ind b a) (u w : List Nat) : dvd ind u w = some [] ↔ Eqv ind u w := by
  constructor
  · intro h
    have h1 := dvd_eqv sy u w [] h
    rw [List.append_nil] at h1
    exact h1
  · intro h
    obtain ⟨r', h1, h2⟩ := dvd_of irr sy u w [] (by rw [List.append_nil]; exact h)
    rw [Eqv.nil irr h2] at h1
    exact h1
theorem rmv_len : ∀ (w : List Nat) (x : Nat) (r : List Nat), rmv ind x w = some r → w.length = r.length + 1
  | [], x, r, h => by cases h
  | y :: ys, x, r, h => by
    unfold rmv at h
    split at h
    · cases h; rfl
    · split at h
      · cases hr : rmv ind x ys with
        | none => rw [hr] at h; cases h
        | some r' =>
          rw [hr] at h
          cases h
          simp [rmv_len ys x r' hr]
      · cases h
theorem dvd_len : ∀ (u w r : List Nat), dvd ind u w = some r → w.length = u.length + r.length
  | [], w, r, h => by cases h; simp
  | x :: u, w, r, h => by
    unfold dvd at h
    split at h
    · cases h
    · rename_i r1 hr
      have h1 := dvd_len u r1 r h
      have h2 := rmv_len w x r1 hr
      simp
      omega
/-- the lowest letter from x on, of n letters, with which a word can begin -/
def lowl (ind : Nat → Nat → Bool) (w : List Nat) : Nat → Nat → Option (Nat × List Nat)
  | 0, _ => none
  | n + 1, x => match rmv ind x w with
    | some r => some (x, r)
    | none => lowl ind w n (x + 1)
def nfs (ind : Nat → Nat → Bool) (k : Nat) : Nat → List Nat → List Nat
  | 0, _ => []
  | n + 1, w => match lowl ind w k 0 with
    | none => []
    | some q => q.1 :: nfs ind k n q.2
theorem lowl_eqv (irr : ∀ a, ind a a = false) (sy : ∀ a b, ind a b = ind b a) {u w : List Nat} (h : Eqv ind u w) : ∀ (n x : Nat), (lowl ind u n x = none ∧ lowl ind w n x = none) ∨ ∃ z r r', lowl ind u n x = some (z, r) ∧ lowl ind w n x = some (z, r') ∧ Eqv ind r r'
  | 0, x => Or.inl ⟨rfl, rfl⟩
  | n + 1, x => by
    rcases rmv_none irr sy h x with ⟨h1, h2⟩ | ⟨r, r', h1, h2, h3⟩
    · rcases lowl_eqv irr sy h n (x + 1) with ⟨h3, h4⟩ | ⟨z, r, r', h3, h4, h5⟩
      · exact Or.inl ⟨by rw [lowl, h1]; exact h3, by rw [lowl, h2]; exact h4⟩
      · exact Or.inr ⟨z, r, r', by rw [lowl, h1]; exact h3, by rw [lowl, h2]; exact h4, h5⟩
    · exact Or.inr ⟨x, r, r', by rw [lowl, h1], by rw [lowl, h2], h3⟩
theorem nfs_eqv (irr : ∀ a, ind a a = false) (sy : ∀ a b, ind a b = ind b a) (k : Nat) : ∀ (n : Nat) (u w : List Nat), Eqv ind u w → nfs ind k n u = nfs ind k n w
  | 0, u, w, h => rfl
  | n + 1, u, w, h => by
    rcases lowl_eqv irr sy h k 0 with ⟨h3, h4⟩ | ⟨z, r, r', h3, h4, h5⟩
    · rw [nfs, nfs, h3, h4]
    · rw [nfs, nfs, h3, h4]
      show z :: nfs ind k n r = z :: nfs ind k n r'
      rw [nfs_eqv irr sy k n r r' h5]
/-- a letter that can be taken from a product: from its first part, or past it -/
theorem rmv_prod (irr : ∀ a, ind a a = false) : ∀ (d s : List Nat) (x : Nat) (r : List Nat), rmv ind x (d ++ s) = some r → (∃ e, rmv ind x d = some e ∧ r = e ++ s) ∨ (rmv ind x d = none ∧ x ∉ d ∧ (∀ y ∈ d, ind y x = true) ∧ ∃ t, rmv ind x s = some t ∧ r = d ++ t)
  | [], s, x, r, h => Or.inr ⟨rfl, List.not_mem_nil, fun _ h => absurd h List.not_mem_nil, r, h, rfl⟩
  | y :: d, s, x, r, h => by
    rw [List.cons_append, rmv] at h
    split at h
    · rename_i e
      cases h
      exact Or.inl ⟨d, by rw [rmv, if_pos e], rfl⟩
    · rename_i hne
      split at h
      · rename_i hi
        cases hr : rmv ind x (d ++ s) with
        | none => rw [hr] at h; cases h
        | some r' =>
          rw [hr] at h
          cases h
          rcases rmv_prod irr d s x r' hr with ⟨e, h1, h2⟩ | ⟨h1, h2, h3, t, h4, h5⟩
          · exact Or.inl ⟨y :: e, by rw [rmv, if_neg hne, if_pos hi, h1]; rfl, by rw [h2]; rfl⟩
          · refine Or.inr ⟨by rw [rmv, if_neg hne, if_pos hi, h1]; rfl, fun hm => ?_, fun z hz => ?_, t, h4, by rw [h5]; rfl⟩
            · rcases List.mem_cons.mp hm with q | q
              · exact hne q.symm
              · exact h2 q
            · rcases List.mem_cons.mp hz with q | q
              · rw [q]; exact hi
              · exact h3 z q
      · cases h
/-- no letter is first in both -/
def noCommon (ind : Nat → Nat → Bool) (r1 r2 : List Nat) : Prop := ∀ x, rmv ind x r1 = none ∨ rmv ind x r2 = none
/-- the greatest common beginning is one, up to likeness -/
theorem gcd_one (irr : ∀ a, ind a a = false) (sy : ∀ a b, ind a b = ind b a) : ∀ (d1 d2 w1 w2 r1 r2 s1 s2 : List Nat), Eqv ind (d1 ++ r1) w1 → Eqv ind (d1 ++ r2) w2 → noCommon ind r1 r2 → Eqv ind (d2 ++ s1) w1 → Eqv ind (d2 ++ s2) w2 → noCommon ind s1 s2 → Eqv ind d1 d2 ∧ Eqv ind r1 s1 ∧ Eqv ind r2 s2
  | [], d2, w1, w2, r1, r2, s1, s2, h1, h2, h3, h4, h5, h6 => by
    cases d2 with
    | nil => exact ⟨Eqv.rf _, h1.tr h4.sy, h2.tr h5.sy⟩
    | cons y d2 =>
      exfalso
      obtain ⟨a, ha, -⟩ := rmv_of irr sy (x := y) (r := d2 ++ s1) (w := r1) (h4.tr h1.sy)
      obtain ⟨b, hb, -⟩ := rmv_of irr sy (x := y) (r := d2 ++ s2) (w := r2) (h5.tr h2.sy)
      rcases h3 y with q | q
      · rw [q] at ha; cases ha
      · rw [q] at hb; cases hb
  | x :: d1, d2, w1, w2, r1, r2, s1, s2, h1, h2, h3, h4, h5, h6 => by
    obtain ⟨a, ha, ha2⟩ := rmv_of irr sy (x := x) (r := d1 ++ r1) (w := d2 ++ s1) (h1.tr h4.sy)
    obtain ⟨b, hb, hb2⟩ := rmv_of irr sy (x := x) (r := d1 ++ r2) (w := d2 ++ s2) (h2.tr h5.sy)
    rcases rmv_prod irr d2 s1 x a ha with ⟨e, q1, q2⟩ | ⟨q1, -, -, t, q4, -⟩
    · rcases rmv_prod irr d2 s2 x b hb with ⟨e', q3, q4⟩ | ⟨q3, -⟩
      · rw [q1] at q3
        cases q3
        rw [q2] at ha2
        rw [q4] at hb2
        obtain ⟨g1, g2, g3⟩ := gcd_one irr sy d1 e _ _ r1 r2 s1 s2 ha2 hb2 h3 (Eqv.rf _) (Eqv.rf _) h6
        exact ⟨(Eqv.cons x g1).tr (rmv_eqv sy d2 x e q1), g2, g3⟩
      · rw [q1] at q3; cases q3
    · exfalso
      rcases rmv_prod irr d2 s2 x b hb with ⟨e', q3, -⟩ | ⟨-, -, -, t', q5, -⟩
      · rw [q1] at q3; cases q3
      · rcases h6 x with q | q
        · rw [q] at q4; cases q4
        · rw [q] at q5; cases q5
end TRACE
