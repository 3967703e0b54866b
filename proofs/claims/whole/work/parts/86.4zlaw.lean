/-! the law -/
theorem law_i {L i : Nat} (hL : L ≤ 2560) (hi : 5 * i ≤ 2560) (h : ¬ (Int32.ofNat L - 5) < nI (5 * i)) : 5 * i + 5 ≤ L := by
  by_cases h5 : L < 5
  · exfalso
    apply h
    have ti : (nI (5 * i)).toInt = ((5 * i : Nat) : Int) := nI_toInt (by omega)
    rw [Int32.lt_iff_toInt_lt, ti]
    have : L = 0 ∨ L = 1 ∨ L = 2 ∨ L = 3 ∨ L = 4 := by omega
    have a0 : (Int32.ofNat 0 - 5).toInt = -5 := by decide
    have a1 : (Int32.ofNat 1 - 5).toInt = -4 := by decide
    have a2 : (Int32.ofNat 2 - 5).toInt = -3 := by decide
    have a3 : (Int32.ofNat 3 - 5).toInt = -2 := by decide
    have a4 : (Int32.ofNat 4 - 5).toInt = -1 := by decide
    rcases this with rfl | rfl | rfl | rfl | rfl
    · rw [a0]; omega
    · rw [a1]; omega
    · rw [a2]; omega
    · rw [a3]; omega
    · rw [a4]; omega
  · have e : Int32.ofNat L - 5 = nI (L - 5) := by
      show nI L - nI 5 = _
      rw [pk_sub (by omega)]
    rw [e, nI_ltI (by omega) (by omega)] at h
    omega
theorem law_init {f1 w1 a1 : Nat → Int32} (hf : FA f1 (fun _ => 0)) (hw : ∀ w, w < 6 → w1 w = nI 0) (ha : ∀ q x, q < 6 → x < 6 → a1 (q * 6 + x) = nI q) : REL (nI 4) f1 w1 (fun _ _ => 0) (nI 1) (nI 0) a1 (upd (upd (fun _ => 0) (nI 0).toNatClampNeg 4) (nI 109).toNatClampNeg 1) := by
  rw [nI_clamp (by decide), nI_clamp (by decide)]
  have hv : ∀ j, j ≠ 0 → j ≠ 109 → (upd (upd (fun _ => (0 : Int32)) 0 4) 109 1) j = nI 0 := fun j h0 h1 => by
    rw [pk_un h1, pk_un h0]; rfl
  have hv0 : (upd (upd (fun _ => (0 : Int32)) 0 4) 109 1) 0 = nI 4 := by rw [pk_un (by decide), pk_us]; rfl
  have hv1 : (upd (upd (fun _ => (0 : Int32)) 0 4) 109 1) 109 = nI 1 := by rw [pk_us]; rfl
  generalize (upd (upd (fun _ => (0 : Int32)) 0 4) 109 1) = v at *
  refine ⟨4, fun _ => 0, fun _ => [], 1, fun q _ => q, 0, ⟨⟨by decide, by decide, fun _ => Nat.two_pow_pos 4, fun _ _ => by simp, fun _ => by simp⟩, fun w _ => ⟨by simp, fun x hx => absurd hx List.not_mem_nil⟩, by decide, by decide, fun q x hq _ => hq, by decide⟩, ⟨rfl, hf, fun w h => ⟨hw w h, by simp, fun i hi => absurd hi (Nat.not_lt_zero _)⟩, rfl, rfl, fun q x hq hx => ha q x (by omega) hx⟩, ⟨hv0, fun j hj => hv _ (by omega) (by omega), fun w h => ⟨hv _ (by omega) (by omega), by simp, fun i hi => absurd hi (Nat.not_lt_zero _)⟩, hv1, hv _ (by omega) (by omega), fun q x hq hx => ?_, fun j hj => ⟨0, by decide, hv _ (by omega) (by omega)⟩⟩⟩
  have : q = 0 := by omega
  subst this
  exact hv _ (by omega) (by omega)
set_option maxRecDepth 10000 in
theorem law_math (xs : Nat → Int32) (L : Nat) (hL : L ≤ 2560) : wp_law xs L := by
  unfold wp_law wp_X10_init wp_X6_init
  refine s_begin6 (m := 4) (fun f1 w1 a1 hf1 hw1 ha1 => s_begin6 (m := 4) (fun f2 w2 a2 _ _ _ => s_begin6 (m := 4) (fun f3 w3 a3 _ _ _ => ?_)))
  refine lp_L_L18_of _ _ (fun z s1 s2 s3 s4 s5 s6 s7 s8 s9 s10 s11 s12 s13 s14 s15 s16 s17 s18 s19 s20 s21 s22 s23 s24 s25 s26 s27 s28 s29 s30 s31 s32 s33 s34 s35 s36 s37 s38 s39 s40 s41 s42 s43 s44 s45 s46 s47 s48 s49 s50 s51 s52 s53 s54 s55 s56 s57 s58 s59 s60 s61 s62 s63 s64 s65 s66 s67 s68 s69 s70 s71 s72 s73 s74 s75 s76 s77 s78 s79 s80 s81 s82 s83 s84 s85 s86 s87 s88 s89 s90 s91 s92 s93 s94 s95 s96 s97 s98 s99 s100 s101 s102 s103 s104 => (∃ i, z = nI (5 * i) ∧ 5 * i ≤ 2560) ∧ REL s1 s2 s3 s4 s5 s6 s7 s75 ∧ SLT s9 s10 s11 s12 s13 s14 s15 s16 s76 s77 ∧ TX s17 s18 s66 s78) (fun z _ _ _ _ _ _ _ _ _ _ _ _ _ _ _ _ _ _ _ _ _ _ _ _ _ _ _ _ _ _ _ _ _ _ _ _ _ _ _ _ _ _ _ _ _ _ _ _ _ _ _ _ _ _ _ _ _ _ _ _ _ _ _ _ _ _ _ _ _ _ _ _ _ _ _ _ _ _ _ _ _ _ _ _ _ _ _ _ _ _ _ _ _ _ _ _ _ _ _ _ _ _ _ _ => 3000 - z.toNatClampNeg) ?_ _ _ _ _ _ _ _ _ _ _ _ _ _ _ _ _ _ _ _ _ _ _ _ _ _ _ _ _ _ _ _ _ _ _ _ _ _ _ _ _ _ _ _ _ _ _ _ _ _ _ _ _ _ _ _ _ _ _ _ _ _ _ _ _ _ _ _ _ _ _ _ _ _ _ _ _ _ _ _ _ _ _ _ _ _ _ _ _ _ _ _ _ _ _ _ _ _ _ _ _ _ _ _ _ _ ⟨⟨0, rfl, by decide⟩, law_init hf1 hw1 ha1, ?_, ⟨[], by decide, fun b hb => absurd hb List.not_mem_nil, rfl, rfl, fun j hj => absurd hj (Nat.not_lt_zero _), fun j hj => absurd hj (Nat.not_lt_zero _)⟩⟩
  · rintro again z s1 s2 s3 s4 s5 s6 s7 s8 s9 s10 s11 s12 s13 s14 s15 s16 s17 s18 s19 s20 s21 s22 s23 s24 s25 s26 s27 s28 s29 s30 s31 s32 s33 s34 s35 s36 s37 s38 s39 s40 s41 s42 s43 s44 s45 s46 s47 s48 s49 s50 s51 s52 s53 s54 s55 s56 s57 s58 s59 s60 s61 s62 s63 s64 s65 s66 s67 s68 s69 s70 s71 s72 s73 s74 s75 s76 s77 s78 s79 s80 s81 s82 s83 s84 s85 s86 s87 s88 s89 s90 s91 s92 s93 s94 s95 s96 s97 s98 s99 s100 s101 s102 s103 s104 ⟨⟨i, rfl, hi0⟩, hR, hS, hT⟩ hag
    unfold wp_L_L18
    refine ⟨fun _ => rfl, fun hlt => ?_⟩
    have hi := law_i hL hi0 hlt
    have b0 : vp_in (nI (5 * i)) L := (q_in (by omega)).mpr (by omega)
    have b1 : vp_in (nI (5 * i) + 1) L := by rw [k_1, nI_add]; exact (q_in (by omega)).mpr (by omega)
    have b2 : vp_in (nI (5 * i) + 2) L := by rw [k_2, nI_add]; exact (q_in (by omega)).mpr (by omega)
    have b3 : vp_in (nI (5 * i) + 3) L := by rw [k_3, nI_add]; exact (q_in (by omega)).mpr (by omega)
    have b4 : vp_in (nI (5 * i) + 4) L := by rw [k_4, nI_add]; exact (q_in (by omega)).mpr (by omega)
    have nxt : ∀ z t1 t2 t3 t4 t5 t6 t7 t8 t9 t10 t11 t12 t13 t14 t15 t16 t17 t18 t19 t20 t21 t22 t23 t24 t25 t26 t27 t28 t29 t30 t31 t32 t33 t34 t35 t36 t37 t38 t39 t40 t41 t42 t43 t44 t45 t46 t47 t48 t49 t50 t51 t52 t53 t54 t55 t56 t57 t58 t59 t60 t61 t62 t63 t64 t65 t66 t67 t68 t69 t70 t71 t72 t73 t74 t75 t76 t77 t78 t79 t80 t81 t82 t83 t84 t85 t86 t87 t88 t89 t90 t91 t92 t93 t94 t95 t96 t97 t98 t99 t100 t101 t102 t103 t104, z = nI (5 * i) + 5 → REL t1 t2 t3 t4 t5 t6 t7 t75 → SLT t9 t10 t11 t12 t13 t14 t15 t16 t76 t77 → TX t17 t18 t66 t78 → again z t1 t2 t3 t4 t5 t6 t7 t8 t9 t10 t11 t12 t13 t14 t15 t16 t17 t18 t19 t20 t21 t22 t23 t24 t25 t26 t27 t28 t29 t30 t31 t32 t33 t34 t35 t36 t37 t38 t39 t40 t41 t42 t43 t44 t45 t46 t47 t48 t49 t50 t51 t52 t53 t54 t55 t56 t57 t58 t59 t60 t61 t62 t63 t64 t65 t66 t67 t68 t69 t70 t71 t72 t73 t74 t75 t76 t77 t78 t79 t80 t81 t82 t83 t84 t85 t86 t87 t88 t89 t90 t91 t92 t93 t94 t95 t96 t97 t98 t99 t100 t101 t102 t103 t104 := by
      intro z t1 t2 t3 t4 t5 t6 t7 t8 t9 t10 t11 t12 t13 t14 t15 t16 t17 t18 t19 t20 t21 t22 t23 t24 t25 t26 t27 t28 t29 t30 t31 t32 t33 t34 t35 t36 t37 t38 t39 t40 t41 t42 t43 t44 t45 t46 t47 t48 t49 t50 t51 t52 t53 t54 t55 t56 t57 t58 t59 t60 t61 t62 t63 t64 t65 t66 t67 t68 t69 t70 t71 t72 t73 t74 t75 t76 t77 t78 t79 t80 t81 t82 t83 t84 t85 t86 t87 t88 t89 t90 t91 t92 t93 t94 t95 t96 t97 t98 t99 t100 t101 t102 t103 t104 hz hR hS hT
      have e : nI (5 * i) + 5 = nI (5 * (i + 1)) := by
        rw [show (5 : Int32) = nI 5 from rfl, nI_add]
        rfl
      rw [e] at hz
      subst hz
      refine hag _ _ _ _ _ _ _ _ _ _ _ _ _ _ _ _ _ _ _ _ _ _ _ _ _ _ _ _ _ _ _ _ _ _ _ _ _ _ _ _ _ _ _ _ _ _ _ _ _ _ _ _ _ _ _ _ _ _ _ _ _ _ _ _ _ _ _ _ _ _ _ _ _ _ _ _ _ _ _ _ _ _ _ _ _ _ _ _ _ _ _ _ _ _ _ _ _ _ _ _ _ _ _ _ _ ⟨⟨i + 1, rfl, by omega⟩, hR, hS, hT⟩ ?_
      show 3000 - (nI (5 * (i + 1))).toNatClampNeg < 3000 - (nI (5 * i)).toNatClampNeg
      rw [nI_clamp (by omega), nI_clamp (by omega)]
      omega
    clear hag
    refine ⟨b0, fun c hc => ⟨?_, ?_, ?_, ?_, ?_, ?_, ?_, ?_, ?_, ?_, ?_, ?_, ?_, ?_, ?_, ?_, ?_, ?_, ?_, ?_, ?_, ?_, ?_, ?_, ?_, ?_, ?_, ?_, ?_, ?_, ?_, ?_, ?_, ?_, ?_, ?_, ?_, ?_, ?_, ?_, ?_⟩⟩
    · intro _
      exact ⟨b1, M_setLetters _ hR (fun r o1 o2 o3 o4 o5 o6 ref => ⟨b1, ref _ (fun p1 hR2 => br_t rfl (fun z hz => nxt z _ _ _ _ _ _ _ _ _ _ _ _ _ _ _ _ _ _ _ _ _ _ _ _ _ _ _ _ _ _ _ _ _ _ _ _ _ _ _ _ _ _ _ _ _ _ _ _ _ _ _ _ _ _ _ _ _ _ _ _ _ _ _ _ _ _ _ _ _ _ _ _ _ _ _ _ _ _ _ _ _ _ _ _ _ _ _ _ _ _ _ _ _ _ _ _ _ _ _ _ _ _ _ _ hz hR2 hS hT))⟩)⟩
    · intro _
      exact ⟨b1, b2, b3, ⟨fun h => M_setIndependent _ _ _ ⟨false, rfl⟩ hR (fun r o1 ref => ⟨b1, b2, b3, br_t h (ref _ (fun p1 hR2 => br_t rfl (fun z hz => nxt z _ _ _ _ _ _ _ _ _ _ _ _ _ _ _ _ _ _ _ _ _ _ _ _ _ _ _ _ _ _ _ _ _ _ _ _ _ _ _ _ _ _ _ _ _ _ _ _ _ _ _ _ _ _ _ _ _ _ _ _ _ _ _ _ _ _ _ _ _ _ _ _ _ _ _ _ _ _ _ _ _ _ _ _ _ _ _ _ _ _ _ _ _ _ _ _ _ _ _ _ _ _ _ _ hz hR2 hS hT)))⟩), fun h => M_setIndependent _ _ _ ⟨true, rfl⟩ hR (fun r o1 ref => ⟨b1, b2, b3, br_f h (ref _ (fun p1 hR2 => br_t rfl (fun z hz => nxt z _ _ _ _ _ _ _ _ _ _ _ _ _ _ _ _ _ _ _ _ _ _ _ _ _ _ _ _ _ _ _ _ _ _ _ _ _ _ _ _ _ _ _ _ _ _ _ _ _ _ _ _ _ _ _ _ _ _ _ _ _ _ _ _ _ _ _ _ _ _ _ _ _ _ _ _ _ _ _ _ _ _ _ _ _ _ _ _ _ _ _ _ _ _ _ _ _ _ _ _ _ _ _ _ hz hR2 hS hT)))⟩)⟩⟩
    · intro _
      exact ⟨b1, M_independent _ hR (fun r ref => ⟨b1, ref _ (br_t rfl (fun z hz => nxt z _ _ _ _ _ _ _ _ _ _ _ _ _ _ _ _ _ _ _ _ _ _ _ _ _ _ _ _ _ _ _ _ _ _ _ _ _ _ _ _ _ _ _ _ _ _ _ _ _ _ _ _ _ _ _ _ _ _ _ _ _ _ _ _ _ _ _ _ _ _ _ _ _ _ _ _ _ _ _ _ _ _ _ _ _ _ _ _ _ _ _ _ _ _ _ _ _ _ _ _ _ _ _ _ hz hR hS hT))⟩)⟩
    · intro _
      exact ⟨b1, M_different _ hR (fun r ref => ⟨b1, ref _ (fun p1 => br_t (lgc.mpr rfl) (fun z hz => nxt z _ _ _ _ _ _ _ _ _ _ _ _ _ _ _ _ _ _ _ _ _ _ _ _ _ _ _ _ _ _ _ _ _ _ _ _ _ _ _ _ _ _ _ _ _ _ _ _ _ _ _ _ _ _ _ _ _ _ _ _ _ _ _ _ _ _ _ _ _ _ _ _ _ _ _ _ _ _ _ _ _ _ _ _ _ _ _ _ _ _ _ _ _ _ _ _ _ _ _ _ _ _ _ _ hz hR hS hT))⟩)⟩
    · intro _
      exact ⟨b1, b2, M_add _ _ hR (fun r o1 o2 ref => ⟨b1, b2, ref _ (fun p1 hR2 => br_t rfl (fun z hz => nxt z _ _ _ _ _ _ _ _ _ _ _ _ _ _ _ _ _ _ _ _ _ _ _ _ _ _ _ _ _ _ _ _ _ _ _ _ _ _ _ _ _ _ _ _ _ _ _ _ _ _ _ _ _ _ _ _ _ _ _ _ _ _ _ _ _ _ _ _ _ _ _ _ _ _ _ _ _ _ _ _ _ _ _ _ _ _ _ _ _ _ _ _ _ _ _ _ _ _ _ _ _ _ _ _ hz hR2 hS hT))⟩)⟩
    · intro _
      exact ⟨b1, M_clear _ hR (fun r o1 ref => ⟨b1, ref _ (fun p1 hR2 => br_t rfl (fun z hz => nxt z _ _ _ _ _ _ _ _ _ _ _ _ _ _ _ _ _ _ _ _ _ _ _ _ _ _ _ _ _ _ _ _ _ _ _ _ _ _ _ _ _ _ _ _ _ _ _ _ _ _ _ _ _ _ _ _ _ _ _ _ _ _ _ _ _ _ _ _ _ _ _ _ _ _ _ _ _ _ _ _ _ _ _ _ _ _ _ _ _ _ _ _ _ _ _ _ _ _ _ _ _ _ _ _ hz hR2 hS hT))⟩)⟩
    · intro _
      exact ⟨b1, M_length _ hR (fun r ref => ⟨b1, ref _ (br_t rfl (fun z hz => nxt z _ _ _ _ _ _ _ _ _ _ _ _ _ _ _ _ _ _ _ _ _ _ _ _ _ _ _ _ _ _ _ _ _ _ _ _ _ _ _ _ _ _ _ _ _ _ _ _ _ _ _ _ _ _ _ _ _ _ _ _ _ _ _ _ _ _ _ _ _ _ _ _ _ _ _ _ _ _ _ _ _ _ _ _ _ _ _ _ _ _ _ _ _ _ _ _ _ _ _ _ _ _ _ _ hz hR hS hT))⟩)⟩
    · intro _
      exact ⟨b1, b2, M_letter _ _ hR (fun r ref => ⟨b1, b2, ref _ (br_t rfl (fun z hz => nxt z _ _ _ _ _ _ _ _ _ _ _ _ _ _ _ _ _ _ _ _ _ _ _ _ _ _ _ _ _ _ _ _ _ _ _ _ _ _ _ _ _ _ _ _ _ _ _ _ _ _ _ _ _ _ _ _ _ _ _ _ _ _ _ _ _ _ _ _ _ _ _ _ _ _ _ _ _ _ _ _ _ _ _ _ _ _ _ _ _ _ _ _ _ _ _ _ _ _ _ _ _ _ _ _ hz hR hS hT))⟩)⟩
    · intro _
      exact ⟨b1, b2, M_normal _ _ hR (fun r o1 o2 o3 o4 o5 o6 o7 o8 o9 ref => ⟨b1, b2, ref _ (fun p1 p2 p3 p4 p5 => br_t rfl (fun z hz => nxt z _ _ _ _ _ _ _ _ _ _ _ _ _ _ _ _ _ _ _ _ _ _ _ _ _ _ _ _ _ _ _ _ _ _ _ _ _ _ _ _ _ _ _ _ _ _ _ _ _ _ _ _ _ _ _ _ _ _ _ _ _ _ _ _ _ _ _ _ _ _ _ _ _ _ _ _ _ _ _ _ _ _ _ _ _ _ _ _ _ _ _ _ _ _ _ _ _ _ _ _ _ _ _ _ hz hR hS hT))⟩)⟩
    · intro _
      exact ⟨b1, M_layers _ hR (fun r o1 o2 o3 o4 o5 o6 o7 ref => ⟨b1, ref _ (fun p1 p2 p3 => br_t rfl (fun z hz => nxt z _ _ _ _ _ _ _ _ _ _ _ _ _ _ _ _ _ _ _ _ _ _ _ _ _ _ _ _ _ _ _ _ _ _ _ _ _ _ _ _ _ _ _ _ _ _ _ _ _ _ _ _ _ _ _ _ _ _ _ _ _ _ _ _ _ _ _ _ _ _ _ _ _ _ _ _ _ _ _ _ _ _ _ _ _ _ _ _ _ _ _ _ _ _ _ _ _ _ _ _ _ _ _ _ hz hR hS hT))⟩)⟩
    · intro _
      exact ⟨b1, b2, M_layer _ _ hR (fun r o1 o2 o3 o4 o5 o6 o7 ref => ⟨b1, b2, ref _ (fun p1 p2 p3 => br_t rfl (fun z hz => nxt z _ _ _ _ _ _ _ _ _ _ _ _ _ _ _ _ _ _ _ _ _ _ _ _ _ _ _ _ _ _ _ _ _ _ _ _ _ _ _ _ _ _ _ _ _ _ _ _ _ _ _ _ _ _ _ _ _ _ _ _ _ _ _ _ _ _ _ _ _ _ _ _ _ _ _ _ _ _ _ _ _ _ _ _ _ _ _ _ _ _ _ _ _ _ _ _ _ _ _ _ _ _ _ _ hz hR hS hT))⟩)⟩
    · intro _
      exact ⟨b1, b2, b3, b4, M_projected _ _ _ _ hR (fun r o1 o2 ref => ⟨b1, b2, b3, b4, ref _ (br_t rfl (fun z hz => nxt z _ _ _ _ _ _ _ _ _ _ _ _ _ _ _ _ _ _ _ _ _ _ _ _ _ _ _ _ _ _ _ _ _ _ _ _ _ _ _ _ _ _ _ _ _ _ _ _ _ _ _ _ _ _ _ _ _ _ _ _ _ _ _ _ _ _ _ _ _ _ _ _ _ _ _ _ _ _ _ _ _ _ _ _ _ _ _ _ _ _ _ _ _ _ _ _ _ _ _ _ _ _ _ _ hz hR hS hT))⟩)⟩
    · intro _
      exact ⟨b1, M_alikeWords _ hR (fun r o1 o2 o3 o4 o5 o6 o7 o8 o9 o10 o11 o12 o13 ref => ⟨b1, ref _ (fun p1 p2 p3 p4 p5 p6 p7 => br_t (lgc.mpr rfl) (fun z hz => nxt z _ _ _ _ _ _ _ _ _ _ _ _ _ _ _ _ _ _ _ _ _ _ _ _ _ _ _ _ _ _ _ _ _ _ _ _ _ _ _ _ _ _ _ _ _ _ _ _ _ _ _ _ _ _ _ _ _ _ _ _ _ _ _ _ _ _ _ _ _ _ _ _ _ _ _ _ _ _ _ _ _ _ _ _ _ _ _ _ _ _ _ _ _ _ _ _ _ _ _ _ _ _ _ _ hz hR hS hT))⟩)⟩
    · intro _
      exact ⟨b1, b2, M_alike _ _ hR (fun r o1 o2 o3 o4 o5 o6 o7 ref => ⟨b1, b2, ref _ (fun p1 p2 p3 p4 p5 => br_t rfl (fun z hz => nxt z _ _ _ _ _ _ _ _ _ _ _ _ _ _ _ _ _ _ _ _ _ _ _ _ _ _ _ _ _ _ _ _ _ _ _ _ _ _ _ _ _ _ _ _ _ _ _ _ _ _ _ _ _ _ _ _ _ _ _ _ _ _ _ _ _ _ _ _ _ _ _ _ _ _ _ _ _ _ _ _ _ _ _ _ _ _ _ _ _ _ _ _ _ _ _ _ _ _ _ _ _ _ _ _ hz hR hS hT))⟩)⟩
    · intro _
      exact ⟨b1, b2, M_commute _ _ hR (fun r o1 o2 o3 o4 o5 o6 o7 o8 o9 ref => ⟨b1, b2, ref _ (fun p1 p2 p3 p4 p5 => br_t rfl (fun z hz => nxt z _ _ _ _ _ _ _ _ _ _ _ _ _ _ _ _ _ _ _ _ _ _ _ _ _ _ _ _ _ _ _ _ _ _ _ _ _ _ _ _ _ _ _ _ _ _ _ _ _ _ _ _ _ _ _ _ _ _ _ _ _ _ _ _ _ _ _ _ _ _ _ _ _ _ _ _ _ _ _ _ _ _ _ _ _ _ _ _ _ _ _ _ _ _ _ _ _ _ _ _ _ _ _ _ hz hR hS hT))⟩)⟩
    · intro _
      exact ⟨b1, M_connected _ hR (fun r ref => ⟨b1, ref _ (br_t rfl (fun z hz => nxt z _ _ _ _ _ _ _ _ _ _ _ _ _ _ _ _ _ _ _ _ _ _ _ _ _ _ _ _ _ _ _ _ _ _ _ _ _ _ _ _ _ _ _ _ _ _ _ _ _ _ _ _ _ _ _ _ _ _ _ _ _ _ _ _ _ _ _ _ _ _ _ _ _ _ _ _ _ _ _ _ _ _ _ _ _ _ _ _ _ _ _ _ _ _ _ _ _ _ _ _ _ _ _ _ hz hR hS hT))⟩)⟩
    · intro _
      exact ⟨b1, b2, M_isPrefix _ _ hR (fun r o1 o2 o3 o4 o5 o6 o7 ref => ⟨b1, b2, ref _ (fun p1 p2 p3 p4 p5 => br_t rfl (fun z hz => nxt z _ _ _ _ _ _ _ _ _ _ _ _ _ _ _ _ _ _ _ _ _ _ _ _ _ _ _ _ _ _ _ _ _ _ _ _ _ _ _ _ _ _ _ _ _ _ _ _ _ _ _ _ _ _ _ _ _ _ _ _ _ _ _ _ _ _ _ _ _ _ _ _ _ _ _ _ _ _ _ _ _ _ _ _ _ _ _ _ _ _ _ _ _ _ _ _ _ _ _ _ _ _ _ _ hz hR hS hT))⟩)⟩
    · intro _
      exact ⟨b1, b2, M_isFactor _ _ hR (fun r o1 o2 o3 o4 o5 o6 o7 o8 o9 o10 o11 ref => ⟨b1, b2, ref _ (fun p1 p2 p3 p4 p5 p6 p7 p8 p9 p10 p11 => br_t rfl (fun z hz => nxt z _ _ _ _ _ _ _ _ _ _ _ _ _ _ _ _ _ _ _ _ _ _ _ _ _ _ _ _ _ _ _ _ _ _ _ _ _ _ _ _ _ _ _ _ _ _ _ _ _ _ _ _ _ _ _ _ _ _ _ _ _ _ _ _ _ _ _ _ _ _ _ _ _ _ _ _ _ _ _ _ _ _ _ _ _ _ _ _ _ _ _ _ _ _ _ _ _ _ _ _ _ _ _ _ hz hR hS hT))⟩)⟩
    · intro _
      exact ⟨b1, M_exponent _ hR (fun r o1 o2 o3 o4 o5 o6 o7 o8 o9 ref => ⟨b1, ref _ (fun p1 p2 p3 p4 p5 p6 => br_t rfl (fun z hz => nxt z _ _ _ _ _ _ _ _ _ _ _ _ _ _ _ _ _ _ _ _ _ _ _ _ _ _ _ _ _ _ _ _ _ _ _ _ _ _ _ _ _ _ _ _ _ _ _ _ _ _ _ _ _ _ _ _ _ _ _ _ _ _ _ _ _ _ _ _ _ _ _ _ _ _ _ _ _ _ _ _ _ _ _ _ _ _ _ _ _ _ _ _ _ _ _ _ _ _ _ _ _ _ _ _ hz hR hS hT))⟩)⟩
    · intro _
      exact ⟨b1, b2, b3, M_product _ _ _ hR (fun r o1 o2 o3 o4 o5 o6 o7 o8 o9 o10 o11 ref => ⟨b1, b2, b3, ref _ (fun p1 p2 p3 p4 p5 p6 p7 p8 hR2 => br_t rfl (fun z hz => nxt z _ _ _ _ _ _ _ _ _ _ _ _ _ _ _ _ _ _ _ _ _ _ _ _ _ _ _ _ _ _ _ _ _ _ _ _ _ _ _ _ _ _ _ _ _ _ _ _ _ _ _ _ _ _ _ _ _ _ _ _ _ _ _ _ _ _ _ _ _ _ _ _ _ _ _ _ _ _ _ _ _ _ _ _ _ _ _ _ _ _ _ _ _ _ _ _ _ _ _ _ _ _ _ _ hz hR2 hS hT))⟩)⟩
    · intro _
      exact ⟨b1, b2, b3, M_quotient _ _ _ hR (fun r o1 o2 o3 o4 o5 o6 o7 o8 o9 ref => ⟨b1, b2, b3, ref _ (fun p1 p2 p3 p4 p5 p6 p7 p8 hR2 => br_t rfl (fun z hz => nxt z _ _ _ _ _ _ _ _ _ _ _ _ _ _ _ _ _ _ _ _ _ _ _ _ _ _ _ _ _ _ _ _ _ _ _ _ _ _ _ _ _ _ _ _ _ _ _ _ _ _ _ _ _ _ _ _ _ _ _ _ _ _ _ _ _ _ _ _ _ _ _ _ _ _ _ _ _ _ _ _ _ _ _ _ _ _ _ _ _ _ _ _ _ _ _ _ _ _ _ _ _ _ _ _ hz hR2 hS hT))⟩)⟩
    · intro _
      exact ⟨b1, b2, b3, M_commonPrefix _ _ _ hR (fun r o1 o2 o3 o4 o5 o6 o7 o8 o9 o10 o11 o12 o13 o14 o15 o16 o17 o18 ref => ⟨b1, b2, b3, ref _ (fun p1 p2 p3 p4 p5 p6 p7 p8 p9 p10 p11 hR2 => br_t rfl (fun z hz => nxt z _ _ _ _ _ _ _ _ _ _ _ _ _ _ _ _ _ _ _ _ _ _ _ _ _ _ _ _ _ _ _ _ _ _ _ _ _ _ _ _ _ _ _ _ _ _ _ _ _ _ _ _ _ _ _ _ _ _ _ _ _ _ _ _ _ _ _ _ _ _ _ _ _ _ _ _ _ _ _ _ _ _ _ _ _ _ _ _ _ _ _ _ _ _ _ _ _ _ _ _ _ _ _ _ hz hR2 hS hT))⟩)⟩
    · intro _
      exact ⟨b1, b2, b3, M_commonMultiple _ _ _ hR (fun r o1 o2 o3 o4 o5 o6 o7 o8 o9 o10 o11 o12 o13 o14 o15 o16 o17 o18 ref => ⟨b1, b2, b3, ref _ (fun p1 p2 p3 p4 p5 p6 p7 p8 p9 p10 p11 hR2 => br_t rfl (fun z hz => nxt z _ _ _ _ _ _ _ _ _ _ _ _ _ _ _ _ _ _ _ _ _ _ _ _ _ _ _ _ _ _ _ _ _ _ _ _ _ _ _ _ _ _ _ _ _ _ _ _ _ _ _ _ _ _ _ _ _ _ _ _ _ _ _ _ _ _ _ _ _ _ _ _ _ _ _ _ _ _ _ _ _ _ _ _ _ _ _ _ _ _ _ _ _ _ _ _ _ _ _ _ _ _ _ _ hz hR2 hS hT))⟩)⟩
    · intro _
      exact ⟨b1, b2, M_root _ _ hR (fun r o1 o2 o3 o4 o5 o6 o7 o8 o9 o10 o11 ref => ⟨b1, b2, ref _ (fun p1 p2 p3 p4 p5 p6 p7 p8 p9 hR2 => br_t rfl (fun z hz => nxt z _ _ _ _ _ _ _ _ _ _ _ _ _ _ _ _ _ _ _ _ _ _ _ _ _ _ _ _ _ _ _ _ _ _ _ _ _ _ _ _ _ _ _ _ _ _ _ _ _ _ _ _ _ _ _ _ _ _ _ _ _ _ _ _ _ _ _ _ _ _ _ _ _ _ _ _ _ _ _ _ _ _ _ _ _ _ _ _ _ _ _ _ _ _ _ _ _ _ _ _ _ _ _ _ hz hR2 hS hT))⟩)⟩
    · intro _
      exact ⟨b1, b2, M_reverse _ _ hR (fun r o1 o2 o3 o4 o5 o6 o7 o8 o9 o10 o11 ref => ⟨b1, b2, ref _ (fun p1 p2 p3 p4 p5 p6 p7 hR2 => br_t rfl (fun z hz => nxt z _ _ _ _ _ _ _ _ _ _ _ _ _ _ _ _ _ _ _ _ _ _ _ _ _ _ _ _ _ _ _ _ _ _ _ _ _ _ _ _ _ _ _ _ _ _ _ _ _ _ _ _ _ _ _ _ _ _ _ _ _ _ _ _ _ _ _ _ _ _ _ _ _ _ _ _ _ _ _ _ _ _ _ _ _ _ _ _ _ _ _ _ _ _ _ _ _ _ _ _ _ _ _ _ hz hR2 hS hT))⟩)⟩
    · intro _
      exact ⟨b1, M_append hT (fun r o1 o2 ref => ⟨b1, ref _ (fun p1 p2 hT2 => br_t rfl (fun z hz => nxt z _ _ _ _ _ _ _ _ _ _ _ _ _ _ _ _ _ _ _ _ _ _ _ _ _ _ _ _ _ _ _ _ _ _ _ _ _ _ _ _ _ _ _ _ _ _ _ _ _ _ _ _ _ _ _ _ _ _ _ _ _ _ _ _ _ _ _ _ _ _ _ _ _ _ _ _ _ _ _ _ _ _ _ _ _ _ _ _ _ _ _ _ _ _ _ _ _ _ _ _ _ _ _ _ hz hR hS hT2))⟩)⟩
    · intro _
      exact M_clearText hT (fun r o1 ref => ref _ (fun p1 hT2 => br_t rfl (fun z hz => nxt z _ _ _ _ _ _ _ _ _ _ _ _ _ _ _ _ _ _ _ _ _ _ _ _ _ _ _ _ _ _ _ _ _ _ _ _ _ _ _ _ _ _ _ _ _ _ _ _ _ _ _ _ _ _ _ _ _ _ _ _ _ _ _ _ _ _ _ _ _ _ _ _ _ _ _ _ _ _ _ _ _ _ _ _ _ _ _ _ _ _ _ _ _ _ _ _ _ _ _ _ _ _ _ _ hz hR hS hT2)))
    · intro _
      obtain ⟨k, fr, W, n, ar, ac, hS1, hA1, hB1⟩ := id hR
      exact M_faultPosition hA1.1 hB1.1 (by have := hS1.1.1; omega) hS1.1.2.1 hT (fun r ref => ref _ (br_t rfl (fun z hz => nxt z _ _ _ _ _ _ _ _ _ _ _ _ _ _ _ _ _ _ _ _ _ _ _ _ _ _ _ _ _ _ _ _ _ _ _ _ _ _ _ _ _ _ _ _ _ _ _ _ _ _ _ _ _ _ _ _ _ _ _ _ _ _ _ _ _ _ _ _ _ _ _ _ _ _ _ _ _ _ _ _ _ _ _ _ _ _ _ _ _ _ _ _ _ _ _ _ _ _ _ _ _ _ _ _ hz hR hS hT)))
    · intro _
      exact ⟨b1, M_matches _ hR hT (fun r o1 o2 o3 o4 o5 o6 o7 o8 o9 o10 o11 o12 o13 o14 o15 o16 o17 o18 o19 o20 o21 o22 o23 o24 o25 o26 o27 o28 ref => ⟨b1, ref _ (fun p1 p2 p3 p4 p5 p6 p7 p8 p9 p10 p11 p12 p13 p14 p15 p16 p17 p18 p19 => br_t rfl (fun z hz => nxt z _ _ _ _ _ _ _ _ _ _ _ _ _ _ _ _ _ _ _ _ _ _ _ _ _ _ _ _ _ _ _ _ _ _ _ _ _ _ _ _ _ _ _ _ _ _ _ _ _ _ _ _ _ _ _ _ _ _ _ _ _ _ _ _ _ _ _ _ _ _ _ _ _ _ _ _ _ _ _ _ _ _ _ _ _ _ _ _ _ _ _ _ _ _ _ _ _ _ _ _ _ _ _ _ hz hR hS hT))⟩)⟩
    · intro _
      exact M_starConnected hR hT (fun r o1 o2 o3 o4 o5 o6 o7 o8 o9 o10 o11 ref => ref _ (fun p1 p2 p3 p4 p5 p6 => br_t rfl (fun z hz => nxt z _ _ _ _ _ _ _ _ _ _ _ _ _ _ _ _ _ _ _ _ _ _ _ _ _ _ _ _ _ _ _ _ _ _ _ _ _ _ _ _ _ _ _ _ _ _ _ _ _ _ _ _ _ _ _ _ _ _ _ _ _ _ _ _ _ _ _ _ _ _ _ _ _ _ _ _ _ _ _ _ _ _ _ _ _ _ _ _ _ _ _ _ _ _ _ _ _ _ _ _ _ _ _ _ hz hR hS hT)))
    · intro _
      exact M_shortest hR hT (fun r o1 o2 o3 o4 o5 o6 o7 o8 o9 o10 ref => ref _ (fun p1 p2 p3 p4 p5 p6 => br_t rfl (fun z hz => nxt z _ _ _ _ _ _ _ _ _ _ _ _ _ _ _ _ _ _ _ _ _ _ _ _ _ _ _ _ _ _ _ _ _ _ _ _ _ _ _ _ _ _ _ _ _ _ _ _ _ _ _ _ _ _ _ _ _ _ _ _ _ _ _ _ _ _ _ _ _ _ _ _ _ _ _ _ _ _ _ _ _ _ _ _ _ _ _ _ _ _ _ _ _ _ _ _ _ _ _ _ _ _ _ _ hz hR hS hT)))
    · intro _
      exact ⟨b1, M_setStates _ hR (fun r o1 o2 o3 ref => ⟨b1, ref _ (fun p1 hR2 => br_t rfl (fun z hz => nxt z _ _ _ _ _ _ _ _ _ _ _ _ _ _ _ _ _ _ _ _ _ _ _ _ _ _ _ _ _ _ _ _ _ _ _ _ _ _ _ _ _ _ _ _ _ _ _ _ _ _ _ _ _ _ _ _ _ _ _ _ _ _ _ _ _ _ _ _ _ _ _ _ _ _ _ _ _ _ _ _ _ _ _ _ _ _ _ _ _ _ _ _ _ _ _ _ _ _ _ _ _ _ _ _ hz hR2 hS hT))⟩)⟩
    · intro _
      exact ⟨b1, b2, b3, M_setArrow _ _ _ hR (fun r o1 ref => ⟨b1, b2, b3, ref _ (fun p1 hR2 => br_t rfl (fun z hz => nxt z _ _ _ _ _ _ _ _ _ _ _ _ _ _ _ _ _ _ _ _ _ _ _ _ _ _ _ _ _ _ _ _ _ _ _ _ _ _ _ _ _ _ _ _ _ _ _ _ _ _ _ _ _ _ _ _ _ _ _ _ _ _ _ _ _ _ _ _ _ _ _ _ _ _ _ _ _ _ _ _ _ _ _ _ _ _ _ _ _ _ _ _ _ _ _ _ _ _ _ _ _ _ _ _ hz hR2 hS hT))⟩)⟩
    · intro _
      exact ⟨b1, b2, ⟨fun h => M_setAccepting _ _ ⟨false, rfl⟩ hR (fun r o1 ref => ⟨b1, b2, br_t h (ref _ (fun p1 hR2 => br_t rfl (fun z hz => nxt z _ _ _ _ _ _ _ _ _ _ _ _ _ _ _ _ _ _ _ _ _ _ _ _ _ _ _ _ _ _ _ _ _ _ _ _ _ _ _ _ _ _ _ _ _ _ _ _ _ _ _ _ _ _ _ _ _ _ _ _ _ _ _ _ _ _ _ _ _ _ _ _ _ _ _ _ _ _ _ _ _ _ _ _ _ _ _ _ _ _ _ _ _ _ _ _ _ _ _ _ _ _ _ _ hz hR2 hS hT)))⟩), fun h => M_setAccepting _ _ ⟨true, rfl⟩ hR (fun r o1 ref => ⟨b1, b2, br_f h (ref _ (fun p1 hR2 => br_t rfl (fun z hz => nxt z _ _ _ _ _ _ _ _ _ _ _ _ _ _ _ _ _ _ _ _ _ _ _ _ _ _ _ _ _ _ _ _ _ _ _ _ _ _ _ _ _ _ _ _ _ _ _ _ _ _ _ _ _ _ _ _ _ _ _ _ _ _ _ _ _ _ _ _ _ _ _ _ _ _ _ _ _ _ _ _ _ _ _ _ _ _ _ _ _ _ _ _ _ _ _ _ _ _ _ _ _ _ _ _ hz hR2 hS hT)))⟩)⟩⟩
    · intro _
      exact ⟨b1, M_acceptedAlike _ hR (fun r o1 o2 o3 o4 o5 o6 o7 o8 o9 o10 o11 o12 o13 ref => ⟨b1, ref _ (fun p1 p2 p3 p4 p5 p6 p7 => br_t (lgc.mpr rfl) (fun z hz => nxt z _ _ _ _ _ _ _ _ _ _ _ _ _ _ _ _ _ _ _ _ _ _ _ _ _ _ _ _ _ _ _ _ _ _ _ _ _ _ _ _ _ _ _ _ _ _ _ _ _ _ _ _ _ _ _ _ _ _ _ _ _ _ _ _ _ _ _ _ _ _ _ _ _ _ _ _ _ _ _ _ _ _ _ _ _ _ _ _ _ _ _ _ _ _ _ _ _ _ _ _ _ _ _ _ hz hR hS hT))⟩)⟩
    · intro _
      exact M_brokenDiamond hR (fun r ref => ref _ (br_t rfl (fun z hz => nxt z _ _ _ _ _ _ _ _ _ _ _ _ _ _ _ _ _ _ _ _ _ _ _ _ _ _ _ _ _ _ _ _ _ _ _ _ _ _ _ _ _ _ _ _ _ _ _ _ _ _ _ _ _ _ _ _ _ _ _ _ _ _ _ _ _ _ _ _ _ _ _ _ _ _ _ _ _ _ _ _ _ _ _ _ _ _ _ _ _ _ _ _ _ _ _ _ _ _ _ _ _ _ _ _ hz hR hS hT)))
    · intro _
      exact M_closed hR (fun r o1 ref => ref _ (fun p1 => br_t rfl (fun z hz => nxt z _ _ _ _ _ _ _ _ _ _ _ _ _ _ _ _ _ _ _ _ _ _ _ _ _ _ _ _ _ _ _ _ _ _ _ _ _ _ _ _ _ _ _ _ _ _ _ _ _ _ _ _ _ _ _ _ _ _ _ _ _ _ _ _ _ _ _ _ _ _ _ _ _ _ _ _ _ _ _ _ _ _ _ _ _ _ _ _ _ _ _ _ _ _ _ _ _ _ _ _ _ _ _ _ hz hR hS hT)))
    · intro _
      exact ⟨b1, M_save hR hS (fun r o1 o2 o3 o4 o5 o6 o7 o8 ref => ⟨b1, ref _ (fun p1 p2 hS2 => br_t rfl (fun z hz => nxt z _ _ _ _ _ _ _ _ _ _ _ _ _ _ _ _ _ _ _ _ _ _ _ _ _ _ _ _ _ _ _ _ _ _ _ _ _ _ _ _ _ _ _ _ _ _ _ _ _ _ _ _ _ _ _ _ _ _ _ _ _ _ _ _ _ _ _ _ _ _ _ _ _ _ _ _ _ _ _ _ _ _ _ _ _ _ _ _ _ _ _ _ _ _ _ _ _ _ _ _ _ _ _ _ hz hR hS2 hT))⟩)⟩
    · intro _
      exact ⟨b1, M_restore hR hS (fun r o1 o2 o3 o4 o5 o6 o7 ref => ⟨b1, ref _ (fun p1 hR2 => br_t rfl (fun z hz => nxt z _ _ _ _ _ _ _ _ _ _ _ _ _ _ _ _ _ _ _ _ _ _ _ _ _ _ _ _ _ _ _ _ _ _ _ _ _ _ _ _ _ _ _ _ _ _ _ _ _ _ _ _ _ _ _ _ _ _ _ _ _ _ _ _ _ _ _ _ _ _ _ _ _ _ _ _ _ _ _ _ _ _ _ _ _ _ _ _ _ _ _ _ _ _ _ _ _ _ _ _ _ _ _ _ hz hR2 hS hT))⟩)⟩
    · intro _
      exact M_checksum hR (fun r o1 o2 o3 o4 o5 o6 o7 o8 o9 o10 o11 o12 o13 o14 o15 o16 o17 o18 o19 o20 o21 o22 o23 ref => ref _ (fun p1 p2 p3 p4 p5 p6 p7 p8 p9 p10 p11 p12 => br_t (lgc.mpr rfl) (fun z hz => nxt z _ _ _ _ _ _ _ _ _ _ _ _ _ _ _ _ _ _ _ _ _ _ _ _ _ _ _ _ _ _ _ _ _ _ _ _ _ _ _ _ _ _ _ _ _ _ _ _ _ _ _ _ _ _ _ _ _ _ _ _ _ _ _ _ _ _ _ _ _ _ _ _ _ _ _ _ _ _ _ _ _ _ _ _ _ _ _ _ _ _ _ _ _ _ _ _ _ _ _ _ _ _ _ _ hz hR hS hT)))
    · intro _ _ _ _ _ _ _ _ _ _ _ _ _ _ _ _ _ _ _ _ _ _ _ _ _ _ _ _ _ _ _ _ _ _ _ _ _ _ _ _ z hz
      exact nxt z _ _ _ _ _ _ _ _ _ _ _ _ _ _ _ _ _ _ _ _ _ _ _ _ _ _ _ _ _ _ _ _ _ _ _ _ _ _ _ _ _ _ _ _ _ _ _ _ _ _ _ _ _ _ _ _ _ _ _ _ _ _ _ _ _ _ _ _ _ _ _ _ _ _ _ _ _ _ _ _ _ _ _ _ _ _ _ _ _ _ _ _ _ _ _ _ _ _ _ _ _ _ _ _ hz hR hS hT
  · intro s hs
    refine ⟨false, ?_, ?_, fun q => absurd q (by decide)⟩
    · rfl
    · rfl
