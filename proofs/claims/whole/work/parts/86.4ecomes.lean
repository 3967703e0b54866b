/-! what is reached without reading -/
def DI (E : Nat → Nat → Prop) (n : Nat) (s0 : Nat → Int64) (b x m : Nat) (st : Nat → Int64) (op : Nat → Int32) (sk : Nat → Prop) : Prop := (∀ b' t, b' ≠ b → t < 256 → SB st b' t = SB s0 b' t) ∧ (∀ t, t < 256 → SB s0 b t = true → SB st b t = true) ∧ SB st b x = true ∧ (∀ t, t < 256 → SB st b t = true → SB s0 b t = true ∨ RT E x t) ∧ (∀ i, i < m → ∃ s, op i = nI s ∧ s < n ∧ SB st b s = true ∧ RT E x s) ∧ (∀ s, s < n → SB st b s = true → (∃ i, i < m ∧ op i = nI s) ∨ (∀ t, E s t → SB st b t = true) ∨ sk s) ∧ m + cnF (SB st b) n ≤ 160
theorem DI.push {E : Nat → Nat → Prop} {n : Nat} {s0 : Nat → Int64} {b x m : Nat} {st st' : Nat → Int64} {op : Nat → Int32} {sk : Nat → Prop} (h : DI E n s0 b x m st op sk) {t : Nat} (hn : n ≤ 160) (hx : x < n) (hEb : ∀ s t, E s t → s < n ∧ t < n) (ht : t < n) (hf : SB st b t = false) (hr : RT E x t) (hu : ∀ b' r, r < 256 → SB st' b' r = (SB st b' r || decide (b' = b ∧ r = t))) : DI E n s0 b x (m + 1) st' (upd op m (nI t)) sk ∧ cnF (SB st' b) n + 1 = cnF (SB st b) n ∧ SB st' b t = true ∧ ∀ r, r < 256 → SB st b r = true → SB st' b r = true := by
  obtain ⟨h1, h2, h3, h4, h5, h6, h7⟩ := h
  have up : ∀ r, r < 256 → SB st b r = true → SB st' b r = true := fun r hr w => by rw [hu b r hr, w]; rfl
  have new : SB st' b t = true := by rw [hu b t (by omega)]; simp
  have cn : cnF (SB st' b) n + 1 = cnF (SB st b) n := by
    have e : cnF (SB st' b) n = cnF (fun r => if r = t then true else SB st b r) n := cnF_eq n (fun s hs => by
      rw [hu b s (by omega)]
      by_cases q : s = t
      · subst q; simp
      · rw [if_neg q]; simp [q])
    rw [e]
    exact cnF_up (C := SB st b) hf (if_pos rfl) (fun s hs => if_neg hs) n ht
  refine ⟨⟨fun b' r hb hr' => ?_, fun r hr' w => up r hr' (h2 r hr' w), ?_, fun r hr' w => ?_, fun i hi => ?_, fun s hs w => ?_, by omega⟩, cn, new, up⟩
  · rw [hu b' r hr', decide_eq_false (fun q => hb q.1), Bool.or_false]
    exact h1 b' r hb hr'
  · rw [hu b x (by omega)]
    rw [h3]; rfl
  · rw [hu b r hr'] at w
    rcases Bool.or_eq_true _ _ ▸ w with w | w
    · exact h4 r hr' w
    · rw [(of_decide_eq_true w).2]; exact Or.inr hr
  · by_cases e : i = m
    · subst e
      exact ⟨t, pk_us, ht, new, hr⟩
    · obtain ⟨s, o1, o2, o3, o4⟩ := h5 i (by omega)
      exact ⟨s, by rw [pk_un e]; exact o1, o2, up s (by omega) o3, o4⟩
  · by_cases e : s = t
    · subst e
      exact Or.inl ⟨m, by omega, pk_us⟩
    · have w2 : SB st b s = true := by
        rw [hu b s (by omega), decide_eq_false (fun q => e q.2), Bool.or_false] at w
        exact w
      rcases h6 s hs w2 with ⟨i, hi, ho⟩ | q | q
      · exact Or.inl ⟨i, by omega, by rw [pk_un (by omega)]; exact ho⟩
      · exact Or.inr (Or.inl (fun r hE => up r (by have := hEb s r hE; omega) (q r hE)))
      · exact Or.inr (Or.inr q)
theorem s_comes {E : Nat → Nat → Prop} {n : Nat} {fre too : Nat → Int32} (hE : ENC E n fre too) (hEb : ∀ s t, E s t → s < n ∧ t < n) (hn : n ≤ 160) {sets : Nat → Int64} {opn : Nat → Int32} {b x : Nat} (hb : b < 2304) (hx : x < n) (hcl : ∀ s t, SB sets b s = true → E s t → SB sets b t = true) {K : (Nat → Int64) → (Nat → Int32) → Prop} (hK : ∀ sets' op', (∀ b' t, b' ≠ b → t < 256 → SB sets' b' t = SB sets b' t) → (∀ t, t < 256 → (SB sets' b t = true ↔ SB sets b t = true ∨ RT E x t)) → K sets' op') : wp_X11_comes fre too sets opn (nI b) (nI x) K := by
  unfold wp_X11_comes
  refine s_hasS hb (by omega) ?_
  cases h0 : SB sets b x with
  | true =>
    refine br_f' (by decide) ?_
    refine lp_X11_comes_L42_of _ _ _ _ (fun x3 st op => x3 = 0 ∧ st = sets ∧ op = opn) (fun _ _ _ => 0) ?_ _ _ _ (⟨rfl, rfl, rfl⟩)
    rintro again x3 st op ⟨rfl, rfl, rfl⟩ hag
    unfold wp_X11_comes_L42
    refine br_t (by decide) ?_
    exact hK _ _ (fun _ _ _ _ => rfl) (fun t ht => ⟨Or.inl, fun w => w.elim id (fun r => r (fun t => SB st b t = true) h0 (fun s t hs he => hcl s t hs he))⟩)
  | false =>
    have ⟨d1, d2⟩ := e_d64 x (by omega)
    refine br_t' (by decide) ?_
    rw [k_64, d1, d2]
    rw [k_4, pk_mul, nI_add, nI_clamp (by omega)]
    refine ⟨(q_in (n := 0) (by decide)).mpr (by decide), (q_in (by omega)).mpr (by omega), (q_in (by omega)).mpr (by omega), ?_⟩
    rw [show (0 : Int32).toNatClampNeg = 0 from rfl]
    have hup : ∀ b' r, r < 256 → SB (vp_updL sets (4 * b + x / 64) (sets (4 * b + x / 64) ||| ((1 : Int64) <<< ((nI (x % 64)).toInt64 &&& 63)))) b' r = (SB sets b' r || decide (b' = b ∧ r = x)) := fun b' r hr => SB_up (by omega) hr
    have base : DI E n sets b x 1 (vp_updL sets (4 * b + x / 64) (sets (4 * b + x / 64) ||| ((1 : Int64) <<< ((nI (x % 64)).toInt64 &&& 63)))) (upd opn 0 (nI x)) (fun _ => False) := by
      generalize vp_updL sets (4 * b + x / 64) (sets (4 * b + x / 64) ||| ((1 : Int64) <<< ((nI (x % 64)).toInt64 &&& 63))) = st at *
      have up : ∀ r, r < 256 → SB sets b r = true → SB st b r = true := fun r hr w => by rw [hup b r hr, w]; rfl
      have new : SB st b x = true := by rw [hup b x (by omega)]; simp
      have cn : cnF (SB st b) n + 1 = cnF (SB sets b) n := by
        have e : cnF (SB st b) n = cnF (fun r => if r = x then true else SB sets b r) n := cnF_eq n (fun s hs => by
          rw [hup b s (by omega)]
          by_cases q : s = x
          · subst q; simp
          · rw [if_neg q]; simp [q])
        rw [e]
        exact cnF_up (C := SB sets b) h0 (if_pos rfl) (fun s hs => if_neg hs) n hx
      have cl := cnF_le (SB sets b) n
      refine ⟨fun b' r hb' hr => by rw [hup b' r hr, decide_eq_false (fun q => hb' q.1), Bool.or_false], up, new, fun r hr w => ?_, fun i hi => ?_, fun s hs w => ?_, by omega⟩
      · rw [hup b r hr] at w
        rcases Bool.or_eq_true _ _ ▸ w with w | w
        · exact Or.inl w
        · rw [(of_decide_eq_true w).2]; exact Or.inr (RT.rf _ _)
      · have : i = 0 := by omega
        subst this
        exact ⟨x, pk_us, hx, new, RT.rf _ _⟩
      · by_cases e : s = x
        · subst e; exact Or.inl ⟨0, by omega, pk_us⟩
        · rw [hup b s (by omega), decide_eq_false (fun q => e q.2), Bool.or_false] at w
          exact Or.inr (Or.inl (fun r he => up r (by have := hEb s r he; omega) (hcl s r w he)))
    refine lp_X11_comes_L42_of _ _ _ _ (fun x3 st op => ∃ m, x3 = nI m ∧ DI E n sets b x m st op (fun _ => False)) (fun x3 st _ => 2 * cnF (SB st b) n + x3.toNatClampNeg) ?_ _ _ _ (⟨1, rfl, base⟩)
    rintro again x3 st op ⟨m, rfl, hD⟩ hag
    unfold wp_X11_comes_L42
    have hm : m ≤ 160 := by have := hD.2.2.2.2.2.2; omega
    cases m with
    | zero =>
      refine br_t (by decide) ?_
      obtain ⟨h1, h2, h3, h4, h5, h6, h7⟩ := hD
      refine hK _ _ h1 (fun t ht => ⟨h4 t ht, fun w => ?_⟩)
      rcases w with w | w
      · exact h2 t ht w
      · refine w (fun t => SB st b t = true) h3 (fun s t hs he => ?_)
        rcases h6 s (hEb s t he).1 hs with ⟨i, hi, -⟩ | q | q
        · omega
        · exact q t he
        · exact q.elim
    | succ m =>
      obtain ⟨s, o1, o2, o3, o4⟩ := hD.2.2.2.2.1 m (by omega)
      refine br_f (by rw [k_0, nI_leI (by omega) (by omega)]; omega) ?_
      rw [pk_m1]
      simp only [forall_eq]
      rw [nI_clamp (by omega), o1]
      refine ⟨(q_in (by omega)).mpr (by omega), ?_⟩
      obtain ⟨e1, e2, e3⟩ := hE s o2
      refine for_X11_comes_L60 _ _ _ _ _ (2) (fun i x3 st' op' => ∃ m', x3 = nI m' ∧ DI E n sets b x m' st' op' (fun r => r = s) ∧ (1 ≤ i → ∀ t, t < 400 → fre s = nI t → SB st' b t = true) ∧ (2 ≤ i → ∀ t, t < 400 → too s = nI t → SB st' b t = true) ∧ 2 * cnF (SB st' b) n + m' ≤ 2 * cnF (SB st b) n + m) ?_ ?_ (0) _ _ _ _ rfl (Nat.zero_le _) (⟨m, rfl, ?_, fun q => absurd q (by decide), fun q => absurd q (by decide), Nat.le_refl _⟩)
      · rintro again2 i x3 st' op' hi ⟨m', rfl, hD', p1, p2, p3⟩ hag2
        have hm' : m' ≤ 160 := by have := hD'.2.2.2.2.2.2; omega
        have j88 : ∀ kx v, (v = -1 ∨ ∃ t, t < n ∧ v = nI t ∧ E s t) → (∀ st'' : Nat → Int64, (∀ r, r < 256 → SB st' b r = true → SB st'' b r = true) → (∀ t, t < 400 → v = nI t → SB st'' b t = true) → (1 ≤ i + 1 → ∀ t, t < 400 → fre s = nI t → SB st'' b t = true) ∧ (2 ≤ i + 1 → ∀ t, t < 400 → too s = nI t → SB st'' b t = true)) → wp_X11_comes_J88 K again2 kx st' op' (nI b) (nI m') (nI i) v := by
          intro kx v hv hnext
          unfold wp_X11_comes_J88
          rcases hv with rfl | ⟨t, ht, rfl, he⟩
          · refine br_t (by decide) ?_
            have := hnext st' (fun _ _ w => w) (fun t ht q => absurd q (m1_ne ht))
            intro z hz
            subst hz
            rw [k_1, nI_add]
            exact hag2 _ _ _ ⟨m', rfl, hD', this.1, this.2, p3⟩
          · refine br_f (by rw [k_0, nI_ltI (by omega) (by omega)]; omega) ?_
            refine s_hasS hb (by omega) ?_
            cases hb1 : SB st' b t with
            | true =>
              refine br_f' (by decide) ?_
              have := hnext st' (fun _ _ w => w) (fun t' ht' q => by rw [nI_inj4 (by omega) ht'] at q; rw [← q]; exact hb1)
              intro z hz
              subst hz
              rw [k_1, nI_add]
              exact hag2 _ _ _ ⟨m', rfl, hD', this.1, this.2, p3⟩
            | false =>
              refine br_t' (by decide) ?_
              have ⟨d1, d2⟩ := e_d64 t (by omega)
              rw [k_64, d1, d2]
              rw [k_4, pk_mul, nI_add, nI_clamp (by omega), nI_clamp (by omega), k_1, nI_add, nI_add]
              refine ⟨(q_in (by omega)).mpr (by omega), (q_in (by omega)).mpr (by omega), (q_in (by omega)).mpr (by omega), ?_⟩
              intro z hz z2 hz2
              subst hz hz2
              obtain ⟨a1, a2, a3, a4⟩ := hD'.push hn hx hEb ht hb1 (o4.step he) (fun b' r hr => SB_up (sets := st') (b := b) (s := t) (by omega) hr)
              have := hnext _ a4 (fun t' ht' q => by rw [nI_inj4 (by omega) ht'] at q; rw [← q]; exact a3)
              exact hag2 _ _ _ ⟨m' + 1, rfl, a1, this.1, this.2, by omega⟩
        unfold wp_X11_comes_L60
        have hval : ∀ v, (v = -1 ∨ ∃ t, t < n ∧ v = nI t) → (∀ t, t < 400 → v = nI t → E s t) → (v = -1 ∨ ∃ t, t < n ∧ v = nI t ∧ E s t) := fun v h h' => by
          rcases h with h | ⟨t, ht, h⟩
          · exact Or.inl h
          · exact Or.inr ⟨t, ht, h, h' t (by omega) h⟩
        rw [nI_clamp (show s < 2 ^ 31 by omega)]
        by_cases i0 : i = 0
        · subst i0
          refine br_f (by decide) (br_t' rfl ⟨(q_in (by omega)).mpr (by omega), ?_⟩)
          exact j88 _ _ (hval _ e2 (fun t ht q => (e1 t ht).mpr (Or.inl q))) (fun st'' w1 w2 => ⟨fun _ => w2, fun q => absurd q (by decide)⟩)
        · have i1 : i = 1 := by omega
          subst i1
          refine br_f (by decide) (br_f' (by decide) ⟨(q_in (by omega)).mpr (by omega), ?_⟩)
          refine j88 _ _ (hval _ e3 (fun t ht q => (e1 t ht).mpr (Or.inr q))) (fun st'' w1 w2 => ⟨fun _ t ht q => ?_, fun _ => w2⟩)
          have h1 := p1 (Nat.le_refl _) t ht q
          exact w1 t (by
            have := (e1 t ht).mpr (Or.inl q)
            have := hEb s t this
            omega) h1
      · rintro again2 x3 st' op' ⟨m', rfl, hD', p1, p2, p3⟩
        unfold wp_X11_comes_L60
        refine br_t (by decide) ?_
        have hm' : m' ≤ 160 := by have := hD'.2.2.2.2.2.2; omega
        refine hag _ _ _ ⟨m', rfl, ?_⟩ ?_
        · obtain ⟨h1, h2, h3, h4, h5, h6, h7⟩ := hD'
          refine ⟨h1, h2, h3, h4, h5, fun r hr w => ?_, h7⟩
          rcases h6 r hr w with q | q | q
          · exact Or.inl q
          · exact Or.inr (Or.inl q)
          · subst q
            refine Or.inr (Or.inl (fun t he => ?_))
            have ht := (hEb r t he).2
            rcases (e1 t (by omega)).mp he with q | q
            · exact p1 (by decide) t (by omega) q
            · exact p2 (by decide) t (by omega) q
        · rw [nI_clamp (by omega), nI_clamp (by omega)]
          omega
      · obtain ⟨h1, h2, h3, h4, h5, h6, h7⟩ := hD
        refine ⟨h1, h2, h3, h4, fun i hi => h5 i (by omega), fun r hr w => ?_, by omega⟩
        rcases h6 r hr w with ⟨i, hi, ho⟩ | q | q
        · by_cases e : i = m
          · subst e
            rw [o1, nI_inj4 (by omega) (by omega)] at ho
            exact Or.inr (Or.inr ho.symm)
          · exact Or.inl ⟨i, by omega, ho⟩
        · exact Or.inr (Or.inl q)
        · exact q.elim
