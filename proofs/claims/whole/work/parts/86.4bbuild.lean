/-! the automaton of the reference -/
def ENC (E : Nat → Nat → Prop) (n : Nat) (fre too : Nat → Int32) : Prop := ∀ s, s < n → (∀ t, t < 400 → (E s t ↔ fre s = nI t ∨ too s = nI t)) ∧ (fre s = -1 ∨ ∃ t, t < n ∧ fre s = nI t) ∧ (too s = -1 ∨ ∃ t, t < n ∧ too s = nI t)
theorem m1_ne {t : Nat} (h : t < 400) : ¬ (-1 : Int32) = nI t := fun q => (q_m1 (n := t) (by omega)).mp q.symm
theorem nI_inj4 {s t : Nat} (hs : s < 400) (ht : t < 400) : nI s = nI t ↔ s = t := q_inj (by omega) (by omega)
theorem ENC.none {E : Nat → Nat → Prop} {n : Nat} {fre too : Nat → Int32} (h : ENC E n fre too) (hn : n ≤ 400) {s : Nat} (hs : s < n) (hE : ∀ t, ¬ E s t) : fre s = -1 ∧ too s = -1 := by
  obtain ⟨h1, h2, h3⟩ := h s hs
  constructor
  · rcases h2 with h2 | ⟨t, ht, h2⟩
    · exact h2
    · exact absurd ((h1 t (by omega)).mpr (Or.inl h2)) (hE t)
  · rcases h3 with h3 | ⟨t, ht, h3⟩
    · exact h3
    · exact absurd ((h1 t (by omega)).mpr (Or.inr h3)) (hE t)
theorem ENC.grow {E : Nat → Nat → Prop} {n : Nat} {fre too : Nat → Int32} (h : ENC E n fre too) (hE : ∀ s t, E s t → s < n) : ENC E (n + 1) (upd fre n (-1)) (upd too n (-1)) := by
  intro s hs
  by_cases e : s = n
  · subst e
    rw [pk_us, pk_us]
    refine ⟨fun t ht => ⟨fun w => ?_, fun w => ?_⟩, Or.inl rfl, Or.inl rfl⟩
    · have := hE _ _ w; omega
    · rcases w with w | w
      · exact absurd w (m1_ne ht)
      · exact absurd w (m1_ne ht)
  · rw [pk_un e, pk_un e]
    obtain ⟨h1, h2, h3⟩ := h s (by omega)
    refine ⟨h1, ?_, ?_⟩
    · rcases h2 with h2 | ⟨t, ht, h2⟩
      · exact Or.inl h2
      · exact Or.inr ⟨t, by omega, h2⟩
    · rcases h3 with h3 | ⟨t, ht, h3⟩
      · exact Or.inl h3
      · exact Or.inr ⟨t, by omega, h3⟩
theorem s_joins {E : Nat → Nat → Prop} {n a b : Nat} {fre too : Nat → Int32} (h : ENC E n fre too) (hn : n ≤ 400) (ha : a < n) (hb : b < n) (ht : too a = -1) {K : (Nat → Int32) → (Nat → Int32) → Prop} (hK : ∀ fre' too', ENC (adE E a b) n fre' too' → (∀ s, s ≠ a → fre' s = fre s ∧ too' s = too s) → (fre a = -1 → too' a = -1) → K fre' too') : wp_X11_joins fre too (nI a) (nI b) K := by
  obtain ⟨h1, h2, h3⟩ := h a ha
  unfold wp_X11_joins
  refine ⟨(q_in (by omega)).mpr (by omega), ?_⟩
  rw [nI_clamp (by omega)]
  have rest : ∀ fre' too', (∀ s, s ≠ a → fre' s = fre s ∧ too' s = too s) → (∀ t, t < 400 → (adE E a b a t ↔ fre' a = nI t ∨ too' a = nI t)) → (fre' a = -1 ∨ ∃ t, t < n ∧ fre' a = nI t) → (too' a = -1 ∨ ∃ t, t < n ∧ too' a = nI t) → ENC (adE E a b) n fre' too' := by
    intro fre' too' o1 o2 o3 o4 s hs
    by_cases e : s = a
    · subst e; exact ⟨o2, o3, o4⟩
    · obtain ⟨p1, p2, p3⟩ := h s hs
      rw [(o1 s e).1, (o1 s e).2]
      refine ⟨fun t ht => ?_, p2, p3⟩
      rw [← p1 t ht]
      exact ⟨fun w => w.elim id (fun w => absurd w.1 e), Or.inl⟩
  rcases h2 with h2 | ⟨t0, ht0, h2⟩
  · rw [h2]
    refine br_f (by decide) ⟨(q_in (by omega)).mpr (by omega), hK _ _ (rest _ _ (fun s hs => ⟨pk_un hs, rfl⟩) (fun t ht' => ?_) (Or.inr ⟨b, hb, pk_us⟩) (Or.inl ht)) (fun s hs => ⟨pk_un hs, rfl⟩) (fun _ => ht)⟩
    rw [pk_us, ht, nI_inj4 (by omega) ht']
    constructor
    · rintro (w | ⟨-, w⟩)
      · rw [h1 t ht', h2, ht] at w
        rcases w with w | w
        · exact absurd w (m1_ne ht')
        · exact absurd w (m1_ne ht')
      · exact Or.inl w.symm
    · rintro (w | w)
      · exact Or.inr ⟨rfl, w.symm⟩
      · exact absurd w (m1_ne ht')
  · rw [h2]
    refine br_t (by rw [k_0, nI_leI (by omega) (by omega)]; omega) ⟨(q_in (by omega)).mpr (by omega), hK _ _ (rest _ _ (fun s hs => ⟨rfl, pk_un hs⟩) (fun t ht' => ?_) (Or.inr ⟨t0, ht0, h2⟩) (Or.inr ⟨b, hb, pk_us⟩)) (fun s hs => ⟨rfl, pk_un hs⟩) (fun w => absurd (w.symm.trans h2) (m1_ne (t := t0) (by omega)))⟩
    rw [pk_us, nI_inj4 (s := b) (by omega) ht']
    constructor
    · rintro (w | ⟨-, w⟩)
      · rw [h1 t ht', ht] at w
        rcases w with w | w
        · exact Or.inl w
        · exact absurd w (m1_ne ht')
      · exact Or.inr w.symm
    · rintro (w | w)
      · exact Or.inl ((h1 t ht').mpr (Or.inl w))
      · exact Or.inr ⟨rfl, w.symm⟩
theorem s_state {n : Nat} (hn : n < 400) {on fre too : Nat → Int32} {K : Int32 → Int32 → (Nat → Int32) → (Nat → Int32) → (Nat → Int32) → Prop} (hK : K (nI n) (nI (n + 1)) (upd on n (-1)) (upd fre n (-1)) (upd too n (-1))) : wp_X11_state (nI n) on fre too K := by
  unfold wp_X11_state
  have e : nI n + 1 = nI (n + 1) := by rw [k_1, nI_add]
  have e2 : nI (n + 1) - 1 = nI n := by rw [k_1, pk_sub (by omega)]; rfl
  rw [e, e2, nI_clamp (by omega)]
  exact ⟨(q_in (by omega)).mpr hn, (q_in (by omega)).mpr hn, (q_in (by omega)).mpr hn, hK⟩
def ONR (n sp : Nat) (sq lq : Nat → Nat) (on to : Nat → Int32) : Prop := (∀ q, q < sp → on (sq q) = nI (lq q) ∧ to (sq q) = nI (sq q + 1)) ∧ (∀ s, s < n → (∃ q, q < sp ∧ s = sq q) ∨ on s = -1)
theorem ONR.grow {n sp : Nat} {sq lq : Nat → Nat} {on to : Nat → Int32} (h : ONR n sp sq lq on to) (hq : ∀ q, q < sp → sq q < n) : ONR (n + 1) sp sq lq (upd on n (-1)) to := by
  constructor
  · intro q h'
    rw [pk_un (by have := hq q h'; omega)]
    exact h.1 q h'
  · intro s hs
    by_cases e : s = n
    · subst e; exact Or.inr pk_us
    · rw [pk_un e]; exact h.2 s (by omega)
