/-! the automata of a form -/
def tpl (ns : List ND) (j a : Nat) : FT := (FI ns j a, LA ns j a, LT ns j a, FM ns j a, LM ns j a)
theorem tpl_old {ns : List ND} {j a : Nat} (h : a < j) : tpl ns (j + 1) a = tpl ns j a := by
  have e : a ≠ j := by omega
  simp [tpl, FI, LA, LT, FM, LM, e]
theorem tpl_map {ns : List ND} {j : Nat} : ∀ {T : List Nat}, (∀ a ∈ T, a < j) → T.map (tpl ns (j + 1)) = T.map (tpl ns j)
  | [], _ => rfl
  | a :: T, h => by
    rw [List.map_cons, List.map_cons, tpl_old (h a List.mem_cons_self), tpl_map (fun b hb => h b (List.mem_cons_of_mem _ hb))]
theorem GI_all {k n : Nat} {ns : List ND} {S0 : List Nat} (hk : k ≤ 6) (hsg : sgOK k ns) (hst : stk ns n = some S0) (hl : n ≤ ns.length) : ∀ {j : Nat} {S : List Nat}, j ≤ n → stk ns j = some S → GA (EG ns j) (SN ns j) (SP ns j) (SQ ns j) (FO ns j) (S.map (tpl ns j))
  | 0, S, _, h => by
    cases h
    exact ⟨fun s t h => h.elim, fun q hq => absurd hq (Nat.not_lt_zero _), fun p q hp => absurd hp (Nat.not_lt_zero _), fun p => Nat.two_pow_pos _, fun p _ => rfl, fun c hc => absurd hc List.not_mem_nil, List.Pairwise.nil⟩
  | j + 1, S', hj, h => by
    obtain ⟨S, hS, hnode⟩ := stk_node h
    have ih := GI_all hk hsg hst hl (by omega) hS
    have slt := stk_lt hS
    obtain ⟨sg, l, r, e, hc⟩ := nd_cases hk hsg hst hl hj
    rw [e] at hnode
    rcases hnode with ⟨q, rfl⟩ | ⟨q, T, rfl, rfl⟩ | ⟨q1, q2, T, rfl, rfl⟩
    · have q' : sg < 11 := q
      rw [List.map_cons, tpl_map slt]
      by_cases g : sg = 10
      · subst g
        have e1 : EG ns (j + 1) = adE (EG ns j) (SN ns j) (SN ns j + 1) := by simp [EG, e]
        have e2 : SN ns (j + 1) = SN ns j + 2 := by simp [SN, e]
        have e3 : SP ns (j + 1) = SP ns j := by simp [SP, e]
        have e4 : SQ ns (j + 1) = SQ ns j := by funext q; simp [SQ, e]
        have e5 : FO ns (j + 1) = FO ns j := by funext q; simp [FO, e]
        have e6 : tpl ns (j + 1) j = (SN ns j, SN ns j + 1, 0, 0, 0) := by simp [tpl, FI, LA, LT, FM, LM, e, fmV, lmV, lval]
        rw [e1, e2, e3, e4, e5, e6]
        exact GA_10 ih
      · have g6 : sg < 10 := by omega
        have n11 : sg ≠ 11 := by omega
        have n12 : sg ≠ 12 := by omega
        have n13 : sg ≠ 13 := by omega
        have e1 : EG ns (j + 1) = EG ns j := by simp [EG, e, g, n11, n12, n13]
        have e2 : SN ns (j + 1) = SN ns j + 2 := by simp [SN, e, n11]
        have e3 : SP ns (j + 1) = SP ns j + 1 := by simp [SP, e, g6]
        have e4 : SQ ns (j + 1) = fun q => if q = SP ns j then SN ns j else SQ ns j q := by funext q; simp [SQ, e, g6]
        have e5 : FO ns (j + 1) = FO ns j := by funext q; simp [FO, e, n11, n13]
        have e6 : tpl ns (j + 1) j = (SN ns j, SN ns j + 1, 1, 2 ^ SP ns j, 2 ^ SP ns j) := by simp [tpl, FI, LA, LT, FM, LM, e, fmV, lmV, lval, g6, n11]
        rw [e1, e2, e3, e4, e5, e6]
        exact GA_lt ih
    · have q' : sg = 13 := q
      subst q'
      have tl : ∀ a ∈ T, a < j := fun a ha => slt a (List.mem_cons_of_mem _ ha)
      have ih' : GA (EG ns j) (SN ns j) (SP ns j) (SQ ns j) (FO ns j) (tpl ns j l :: T.map (tpl ns j)) := ih
      rw [List.map_cons, tpl_map tl]
      have e1 : EG ns (j + 1) = starE (EG ns j) (SN ns j) (FI ns j l) (LA ns j l) := by simp [EG, e]
      have e2 : SN ns (j + 1) = SN ns j + 2 := by simp [SN, e]
      have e3 : SP ns (j + 1) = SP ns j := by simp [SP, e]
      have e4 : SQ ns (j + 1) = SQ ns j := by funext q; simp [SQ, e]
      have e5 : FO ns (j + 1) = fun p => if (LM ns j l).testBit p then FO ns j p ||| FM ns j l else FO ns j p := by funext q; simp [FO, e]
      have e6 : tpl ns (j + 1) j = (SN ns j, SN ns j + 1, 0, FM ns j l, LM ns j l) := by simp [tpl, FI, LA, LT, FM, LM, e, fmV, lmV, lval]
      rw [e1, e2, e3, e4, e5, e6]
      exact GA_13 ih'
    · have q1' : 11 ≤ sg := q1
      have q2' : ¬ sg = 13 := q2
      have tl : ∀ a ∈ T, a < j := fun a ha => slt a (List.mem_cons_of_mem _ (List.mem_cons_of_mem _ ha))
      have ih' : GA (EG ns j) (SN ns j) (SP ns j) (SQ ns j) (FO ns j) (tpl ns j r :: tpl ns j l :: T.map (tpl ns j)) := ih
      rw [List.map_cons, tpl_map tl]
      by_cases g : sg = 11
      · subst g
        have e1 : EG ns (j + 1) = adE (EG ns j) (LA ns j l) (FI ns j r) := by simp [EG, e]
        have e2 : SN ns (j + 1) = SN ns j := by simp [SN, e]
        have e3 : SP ns (j + 1) = SP ns j := by simp [SP, e]
        have e4 : SQ ns (j + 1) = SQ ns j := by funext q; simp [SQ, e]
        have e5 : FO ns (j + 1) = fun p => if (LM ns j l).testBit p then FO ns j p ||| FM ns j r else FO ns j p := by funext q; simp [FO, e]
        have e6 : tpl ns (j + 1) j = (FI ns j l, LA ns j r, LT ns j l + LT ns j r, (if LT ns j l = 0 then FM ns j l ||| FM ns j r else FM ns j l), (if LT ns j r = 0 then LM ns j r ||| LM ns j l else LM ns j r)) := by simp [tpl, FI, LA, LT, FM, LM, e, fmV, lmV, lval]
        rw [e1, e2, e3, e4, e5, e6]
        exact GA_11 ih'
      · have g' : sg = 12 := by omega
        subst g'
        have e1 : EG ns (j + 1) = sumE (EG ns j) (SN ns j) (FI ns j l) (FI ns j r) (LA ns j l) (LA ns j r) := by simp [EG, e]
        have e2 : SN ns (j + 1) = SN ns j + 2 := by simp [SN, e]
        have e3 : SP ns (j + 1) = SP ns j := by simp [SP, e]
        have e4 : SQ ns (j + 1) = SQ ns j := by funext q; simp [SQ, e]
        have e5 : FO ns (j + 1) = FO ns j := by funext q; simp [FO, e]
        have e6 : tpl ns (j + 1) j = (SN ns j, SN ns j + 1, (if LT ns j r < LT ns j l then LT ns j r else LT ns j l), FM ns j l ||| FM ns j r, LM ns j l ||| LM ns j r) := by simp [tpl, FI, LA, LT, FM, LM, e, fmV, lmV, lval]
        rw [e1, e2, e3, e4, e5, e6]
        exact GA_12 ih'
