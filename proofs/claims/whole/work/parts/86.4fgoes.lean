/-! reading a word along its beginnings -/
def NXq (A : Nat → Nat → Prop) (sp F : Nat) (fo : Nat → Nat) (b q : Nat) : Prop := if b = 0 then F.testBit q = true else ∃ p, p < sp ∧ A b p ∧ (fo p).testBit q = true
def AX (fr : Nat → Nat) (u : List Nat) (sp : Nat) (lq : Nat → Nat) (N : Nat → Prop) (A : Nat → Nat → Prop) (b : Nat) : Nat → Nat → Nat → Prop
  | 0 => A
  | x + 1 => fun b' q => AX fr u sp lq N A b x b' q ∨ (b' = b + wt u x ∧ cc fr u b x = true ∧ q < sp ∧ lq q = x ∧ N q)
def AB (fr : Nat → Nat) (u : List Nat) (k sp : Nat) (lq : Nat → Nat) (F : Nat) (fo : Nat → Nat) : Nat → Nat → Nat → Prop
  | 0 => fun _ _ => False
  | b + 1 => AX fr u sp lq (NXq (AB fr u k sp lq F fo b) sp F fo b) (AB fr u k sp lq F fo b) b k
theorem AX_s {fr : Nat → Nat} {u : List Nat} {sp : Nat} {lq : Nat → Nat} {N : Nat → Prop} {A : Nat → Nat → Prop} {b x b' q : Nat} : AX fr u sp lq N A b (x + 1) b' q ↔ AX fr u sp lq N A b x b' q ∨ (b' = b + wt u x ∧ cc fr u b x = true ∧ q < sp ∧ lq q = x ∧ N q) := Iff.rfl
theorem AX_low {fr : Nat → Nat} {u : List Nat} {sp : Nat} {lq : Nat → Nat} {N : Nat → Prop} {A : Nat → Nat → Prop} {b b' q : Nat} (h : b' ≤ b) : ∀ x, AX fr u sp lq N A b x b' q ↔ A b' q
  | 0 => Iff.rfl
  | x + 1 => by
    rw [AX_s, AX_low h x]
    have := wt_pos u x
    exact ⟨fun w => w.elim id (fun w => by omega), Or.inl⟩
theorem AB_0 {fr : Nat → Nat} {u : List Nat} {k sp : Nat} {lq : Nat → Nat} {F : Nat} {fo : Nat → Nat} {q : Nat} : ∀ b, ¬ AB fr u k sp lq F fo b 0 q
  | 0 => id
  | b + 1 => fun w => AB_0 b ((AX_low (Nat.zero_le b) k).mp w)
def TS (E : Nat → Nat → Prop) (sq : Nat → Nat) (f0 sp : Nat) (A : Nat → Nat → Prop) (b s : Nat) : Prop := (b = 0 ∧ RT E f0 s) ∨ ∃ q, q < sp ∧ A b q ∧ RT E (sq q + 1) s
theorem SB_cl {E : Nat → Nat → Prop} {n N bw x : Nat} {st st' : Nat → Int64} (hEb : ∀ s t, E s t → s < n ∧ t < n) (hn : n ≤ 160) (hcl : ∀ b' s t, b' < N → SB st b' s = true → E s t → SB st b' t = true) (h1 : ∀ b' t, b' ≠ bw → t < 256 → SB st' b' t = SB st b' t) (h2 : ∀ t, t < 256 → (SB st' bw t = true ↔ SB st bw t = true ∨ RT E x t)) : ∀ b' s t, b' < N → SB st' b' s = true → E s t → SB st' b' t = true := by
  intro b' s t hb hs he
  have := hEb s t he
  by_cases e : b' = bw
  · subst e
    rw [h2 s (by omega)] at hs
    rw [h2 t (by omega)]
    rcases hs with hs | hs
    · exact Or.inl (hcl b' s t hb hs he)
    · exact Or.inr (hs.step he)
  · rw [h1 b' s e (by omega)] at hs
    rw [h1 b' t e (by omega)]
    exact hcl b' s t hb hs he
theorem s_goesOn {E : Nat → Nat → Prop} {n sp N : Nat} {sq lq : Nat → Nat} {fre too on to stp : Nat → Int32} (hE : ENC E n fre too) (hEb : ∀ s t, E s t → s < n ∧ t < n) (hn : n ≤ 160) (hO : ONR n sp sq lq on to) (hsq : ∀ q, q < sp → sq q + 1 < n) (hlq : ∀ q, q < sp → lq q < 6) {sets : Nat → Int64} {opn : Nat → Int32} {b x w : Nat} (hx : x < 6) (hN : N ≤ 2304) (hb : b < N) (hbw : b + w < N) (hw : 0 < w) (hstp : stp x = nI w) (hcl : ∀ b' s t, b' < N → SB sets b' s = true → E s t → SB sets b' t = true) {K : (Nat → Int64) → (Nat → Int32) → Prop} (hK : ∀ sets' op', (∀ b' s t, b' < N → SB sets' b' s = true → E s t → SB sets' b' t = true) → (∀ b' t, b' ≠ b + w → t < 256 → SB sets' b' t = SB sets b' t) → (∀ t, t < 256 → (SB sets' (b + w) t = true ↔ SB sets (b + w) t = true ∨ ∃ q, q < sp ∧ lq q = x ∧ SB sets b (sq q) = true ∧ RT E (sq q + 1) t)) → K sets' op') : wp_X11_goesOn (nI n) stp on to fre too sets opn (nI b) (nI x) K := by
  unfold wp_X11_goesOn
  refine for_X11_goesOn_L2 _ _ _ _ _ _ _ _ _ (n) (fun i st op => (∀ b' s t, b' < N → SB st b' s = true → E s t → SB st b' t = true) ∧ (∀ b' t, b' ≠ b + w → t < 256 → SB st b' t = SB sets b' t) ∧ (∀ t, t < 256 → (SB st (b + w) t = true ↔ SB sets (b + w) t = true ∨ ∃ q, q < sp ∧ sq q < i ∧ lq q = x ∧ SB sets b (sq q) = true ∧ RT E (sq q + 1) t))) ?_ ?_ (0) _ _ _ rfl (Nat.zero_le _) (⟨hcl, fun _ _ _ _ => rfl, fun t ht => ⟨Or.inl, fun h => h.elim id (fun ⟨q, _, h, _⟩ => absurd h (Nat.not_lt_zero _))⟩⟩)
  · rintro again i st op hi ⟨h1, h2, h3⟩ hag
    have same : (∀ q, q < sp → sq q = i → lq q = x → SB sets b (sq q) = true → False) → again (nI (i + 1)) st op := fun no => hag _ _ ⟨h1, h2, fun t ht => by
      rw [h3 t ht]
      constructor
      · rintro (h | ⟨q, a1, a2, a3⟩)
        · exact Or.inl h
        · exact Or.inr ⟨q, a1, by omega, a3⟩
      · rintro (h | ⟨q, a1, a2, a3, a4, a5⟩)
        · exact Or.inl h
        · by_cases e : sq q = i
          · exact (no q a1 e a3 a4).elim
          · exact Or.inr ⟨q, a1, by omega, a3, a4, a5⟩⟩
    have same' : (∀ q, q < sp → sq q = i → lq q = x → SB sets b (sq q) = true → False) → ∀ z, z = nI i + 1 → again z st op := fun no z hz => by
      subst hz
      rw [k_1, nI_add]
      exact same no
    unfold wp_X11_goesOn_L2
    rw [nI_clamp (by omega)]
    refine br_f (by rw [nI_leI (by omega) (by omega)]; omega) ⟨(q_in (by omega)).mpr (by omega), ?_⟩
    rcases hO.2 i hi with ⟨q, hq, hi2⟩ | hm
    · have o1 := hO.1 q hq
      rw [← hi2] at o1
      have lq6 := hlq q hq
      by_cases e : lq q = x
      · refine br_t' (by rw [o1.1, e]) (s_hasS (by omega) (by omega) ?_)
        rw [h2 b i (by omega) (by omega)]
        cases hb1 : SB sets b i with
        | false =>
          refine br_t (by decide) (same' (fun q' _ e1 _ e3 => ?_))
          rw [e1, hb1] at e3
          cases e3
        | true =>
          refine br_f (by decide) ?_
          have sq1 := hsq q hq
          rw [nI_clamp (by omega), hstp, nI_add, o1.2]
          refine ⟨(q_in (by omega)).mpr (by omega), (q_in (by omega)).mpr (by omega), ?_⟩
          refine s_comes hE hEb hn (by omega) (by omega) (fun s t hs he => h1 _ s t hbw hs he) (fun st' op' g1 g2 => ?_)
          intro z hz
          subst hz
          rw [k_1, nI_add]
          refine hag _ _ ⟨SB_cl hEb hn h1 g1 g2, fun b' t hb' ht => by rw [g1 b' t hb' ht, h2 b' t hb' ht], fun t ht => ?_⟩
          rw [g2 t ht, h3 t ht]
          constructor
          · rintro ((h | ⟨q', a1, a2, a3⟩) | h)
            · exact Or.inl h
            · exact Or.inr ⟨q', a1, by omega, a3⟩
            · exact Or.inr ⟨q, hq, by omega, e, by rw [← hi2]; exact hb1, by rw [← hi2]; exact h⟩
          · rintro (h | ⟨q', a1, a2, a3, a4, a5⟩)
            · exact Or.inl (Or.inl h)
            · by_cases e' : sq q' = i
              · rw [e'] at a5
                exact Or.inr a5
              · exact Or.inl (Or.inr ⟨q', a1, by omega, a3, a4, a5⟩)
      · refine br_f' (by rw [o1.1, nI_inj4 (by omega) (by omega)]; exact e) (same' (fun q' hq' e1 e2 _ => ?_))
        have o2 := (hO.1 q' hq').1
        rw [e1, o1.1, nI_inj4 (by omega) (by have := hlq q' hq'; omega)] at o2
        omega
    · refine br_f' (by rw [hm]; exact m1_ne (by omega)) (same' (fun q' hq' e1 e2 _ => ?_))
      have o2 := (hO.1 q' hq').1
      rw [e1, hm] at o2
      exact m1_ne (by have := hlq q' hq'; omega) o2
  · rintro again st op ⟨h1, h2, h3⟩
    unfold wp_X11_goesOn_L2
    refine br_t (by rw [nI_leI (by omega) (by omega)]; omega) (hK _ _ h1 h2 (fun t ht => ?_))
    rw [h3 t ht]
    constructor
    · rintro (h | ⟨q, a1, a2, a3⟩)
      · exact Or.inl h
      · exact Or.inr ⟨q, a1, a3⟩
    · rintro (h | ⟨q, a1, a3⟩)
      · exact Or.inl h
      · exact Or.inr ⟨q, a1, by have := hsq q a1; omega, a3⟩
