/-! X0_countCliques -/
def wp_X0_countCliques_L7 (K : (Nat → Int64) → Prop) (kx47 : (Nat → Int64) → Prop) (t_count : Int32) (t_free : Nat → Int32) (again : Int32 → (Nat → Int64) → Prop) (x2 : Int32) (n2 : Nat → Int64) : Prop := (((1 <<< (t_count &&& 31)) ≤ x2 → kx47 n2) ∧ (¬ (1 <<< (t_count &&& 31)) ≤ x2 → ((64 ≤ x2 → kx47 n2) ∧ (¬ 64 ≤ x2 → wp_X0_isClique t_count t_free x2 (fun r_1 => ((r_1 = 0 → ∀ x2_2 : Int32, x2_2 = x2 + 1 → again x2_2 n2) ∧ (¬ r_1 = 0 → wp_J6_bitCount_0f7a4 x2 (fun r_3 => vp_in r_3 7 ∧ vp_in r_3 7 ∧ ∀ x2_4 : Int32, x2_4 = x2 + 1 → again x2_4 (vp_updL n2 r_3.toNatClampNeg ((n2 r_3.toNatClampNeg) + 1))))))))))
def lf_X0_countCliques_L7 (K : (Nat → Int64) → Prop) (kx47 : (Nat → Int64) → Prop) (t_count : Int32) (t_free : Nat → Int32) (again : (Int32 × (Nat → Int64)) → Prop) (st : Int32 × (Nat → Int64)) : Prop := wp_X0_countCliques_L7 K kx47 t_count t_free (fun b0 b1 => again (b0, b1)) st.1 st.2
def lp_X0_countCliques_L7 (K : (Nat → Int64) → Prop) (kx47 : (Nat → Int64) → Prop) (t_count : Int32) (t_free : Nat → Int32) (x2 : Int32) (n2 : Nat → Int64) : Prop := ∃ nn : Nat, itr (lf_X0_countCliques_L7 K kx47 t_count t_free) nn (x2, n2)
theorem lp_X0_countCliques_L7_of {K : (Nat → Int64) → Prop} (kx47 : (Nat → Int64) → Prop) (t_count : Int32) (t_free : Nat → Int32) (I : Int32 → (Nat → Int64) → Prop) (μ : Int32 → (Nat → Int64) → Nat) (hs : ∀ (again : Int32 → (Nat → Int64) → Prop) (x2 : Int32) (n2 : Nat → Int64), I x2 n2 → (∀ b0 b1, I b0 b1 → μ b0 b1 < μ x2 n2 → again b0 b1) → wp_X0_countCliques_L7 K kx47 t_count t_free again x2 n2) (x2 : Int32) (n2 : Nat → Int64) (h : I x2 n2) : lp_X0_countCliques_L7 K kx47 t_count t_free x2 n2 := itr_ex _ (fun (st : Int32 × (Nat → Int64)) => I st.1 st.2) (fun (st : Int32 × (Nat → Int64)) => μ st.1 st.2) (fun again st hI ih => hs (fun b0 b1 => again (b0, b1)) st.1 st.2 hI (fun b0 b1 h1 h2 => ih (b0, b1) h1 h2)) (x2, n2) h
def wp_X0_countCliques (t_count : Int32) (t_free : Nat → Int32) (K : (Nat → Int64) → Prop) : Prop := lp_X0_countCliques_L7 K (fun n2_5 => K n2_5) t_count t_free 0 (fun _ => 0)
def w_X0_countCliques (g : gT) (a_t : Nat) (a_t_free : Nat) (t_count : Int32) (t_free : Nat → Int32) : va_W := [(a_t, .inr (0, [.int t_count, .ref a_t_free])), (a_t_free, .inl (gI g, 6, .inl t_free))]
def w_X0_countCliques_n1 (g : gT) (a_t : Nat) (a_t_free : Nat) (a_n2 : Nat) (t_count : Int32) (t_free : Nat → Int32) (n2 : Nat → Int64) : va_W := [(a_t, .inr (0, [.int t_count, .ref a_t_free])), (a_t_free, .inl (gI g, 6, .inl t_free)), (a_n2, .inl (gJ g, 7, .inr (.inl n2)))]
def rm_X0_countCliques : Room := { frames := 2, cells := 1, slots := 7, locals := 44 }
theorem iw_X0_countCliques_X0 : ∀ w ∈ wsX00, w ∈ wsX0_countCliques := fun _ h => List.mem_cons_of_mem _ (List.mem_append_right _ h)
set_option maxHeartbeats 4000000 in
set_option maxRecDepth 100000 in
theorem ct_X0_countCliques (l : Launch) (g : gT) (a_t : Nat) (a_t_free : Nat) (t_count : Int32) (t_free : Nat → Int32) {K : (Nat → Int64) → Prop} (h : wp_X0_countCliques t_count t_free K) : CR l g yX0_countCliques wsX0_countCliques rm_X0_countCliques [.ref a_t] (w_X0_countCliques g a_t a_t_free t_count t_free) (fun u : (Nat → Int64) => K u) (fun (u : (Nat → Int64)) (a : Nat) => w_X0_countCliques g a_t a_t_free t_count t_free ++ [(a, .inl (gJ g, 7, .inr (.inl u)))]) := by
  refine g_enR (Or.inr ⟨_, rfl⟩) (cc := cX0_countCliques) (maxL := 3) (by decide) rfl (Nat.le_of_ble_eq_true rfl) ?_
  intro p e s m args below meth c A H locs ls Q hx hb hnm hml hts hown hA hK hN hZ hP hD hS hl hE
  replace hown : s.vm.findClass RX0 = some m.cls := hown
  replace hl : lv_has ls 3 [(0, .ref a_t)] := hl
  unfold wp_X0_countCliques at h
  have hL7 : ∀ (a_n2 : Nat) (kx47 : (Nat → Int64) → Prop) (hk47 : ∀ (n2 : Nat → Int64) (H : Heap) (locs : List Loc) (ls : Array Slot), kx47 n2 → va_P g.1 vwCl (w_X0_countCliques_n1 g a_t a_t_free a_n2 t_count t_free n2) H → va_D A (w_X0_countCliques_n1 g a_t a_t_free a_n2 t_count t_free n2) → va_S A s.heap H locs → lv_has ls 3 [(1, .ref a_n2)] → W p l e rm_X0_countCliques s m args below meth c H locs 1 7 Q (F0 m 47 ls [])) (x2 : Int32) (n2 : Nat → Int64) (H : Heap) (locs : List Loc) (ls : Array Slot), lp_X0_countCliques_L7 K kx47 t_count t_free x2 n2 → va_P g.1 vwCl (w_X0_countCliques_n1 g a_t a_t_free a_n2 t_count t_free n2) H → va_D A (w_X0_countCliques_n1 g a_t a_t_free a_n2 t_count t_free n2) → va_S A s.heap H locs → lv_has ls 3 [(0, .ref a_t), (1, .ref a_n2), (2, .int x2)] → W p l e rm_X0_countCliques s m args below meth c H locs 1 7 Q (F0 m 7 ls []) := by
    intro a_n2 kx47 hk47
    suffices hh : ∀ (nn : Nat) (x2 : Int32) (n2 : Nat → Int64) (H : Heap) (locs : List Loc) (ls : Array Slot), itr (lf_X0_countCliques_L7 K kx47 t_count t_free) nn (x2, n2) → va_P g.1 vwCl (w_X0_countCliques_n1 g a_t a_t_free a_n2 t_count t_free n2) H → va_D A (w_X0_countCliques_n1 g a_t a_t_free a_n2 t_count t_free n2) → va_S A s.heap H locs → lv_has ls 3 [(0, .ref a_t), (1, .ref a_n2), (2, .int x2)] → W p l e rm_X0_countCliques s m args below meth c H locs 1 7 Q (F0 m 7 ls []) from fun x2 n2 H locs ls h => by
      obtain ⟨nn, h⟩ := h
      exact hh nn x2 n2 H locs ls h
    intro nn
    induction nn with
    | zero => exact fun x2 n2 H locs ls h => (h : False).elim
    | succ nn hag =>
      intro x2 n2 H locs ls h hP hD hS hl
      replace h : wp_X0_countCliques_L7 K kx47 t_count t_free (fun b0 b1 => itr (lf_X0_countCliques_L7 K kx47 t_count t_free) nn (b0, b1)) x2 n2 := h
      unfold wp_X0_countCliques_L7 at h
      refine lv_iload_n hx hb dX0_countCliques_7 rfl (lv_at hl 2 rfl) ?_
      refine lv_iconst (v := 1) hx hb dX0_countCliques_8 (by decide) ?_
      refine lv_aload_n hx hb dX0_countCliques_9 rfl (lv_at hl 0 rfl) ?_
      refine va_get (ci := 0) (C := RX0) (T := TX0) (N := 2) hx hb hts (iw_X0_countCliques_X0) hown hK hP (0) rfl rfl 0 (by decide) (hts (.fieldLink RX0 15 "CommutingWords$Alphabet" "count" "I") (List.mem_of_getElem? (i := 2) rfl)) (fun _ h9 => h9) rfl dX0_countCliques_10 ?_
      refine lv_ishl hx hb dX0_countCliques_13 ?_
      refine lv_icmp_ge (tgt := 47) hx hb dX0_countCliques_14 (by decide) (fun hc => ?_) (fun hc => ?_)
      · replace h := h.1 hc
        exact hk47 n2 H locs ls h hP hD hS (lv_sub hl [1] rfl)
      · replace h := h.2 hc
        refine lv_iload_n hx hb dX0_countCliques_17 rfl (lv_at hl 2 rfl) ?_
        refine lv_bipush (v := 64) hx hb dX0_countCliques_18 (by decide) ?_
        refine lv_icmp_ge (tgt := 47) hx hb dX0_countCliques_20 (by decide) (fun hc => ?_) (fun hc => ?_)
        · replace h := h.1 hc
          exact hk47 n2 H locs ls h hP hD hS (lv_sub hl [1] rfl)
        · replace h := h.2 hc
          refine lv_aload_n hx hb dX0_countCliques_23 rfl (lv_at hl 0 rfl) ?_
          refine lv_iload_n hx hb dX0_countCliques_24 rfl (lv_at hl 2 rfl) ?_
          have hs9 : List.map (fun i : Nat => (w_X0_countCliques_n1 g a_t a_t_free a_n2 t_count t_free n2)[i]?) [0, 1] = List.map some (w_X0_isClique g a_t a_t_free t_count t_free) := rfl
          have hd9 : va_nd [0, 1] = true := rfl
          refine g_callI (w1 := fun u : Unit => w_X0_isClique g a_t a_t_free t_count t_free) (wn := fun u : Unit => w_X0_countCliques_n1 g a_t a_t_free a_n2 t_count t_free n2) (g_mk hK hN hZ hA hP hD hS) hs9 (jn_id (g_mk hK hN hZ hA hP hD hS) hs9) (g_runV (As := [.int x2]) (rest := []) (g_mk hK hN hZ hA hP hD hS) ⟨hx, hb, hml, hown, hts⟩ [0, 1] hd9 hs9 (ct_X0_isClique l g a_t a_t_free t_count t_free x2 h _) (cwV 1 hts gX0_countCliques_X0_isClique rfl rfl rfl (by decide +kernel) ⟨Nat.le_of_ble_eq_true rfl, Nat.le_of_ble_eq_true rfl⟩) rfl rfl rfl rfl hl.1 rfl (Nat.le_of_ble_eq_true rfl) dX0_countCliques_25 ⟨Nat.le_of_ble_eq_true rfl, Nat.le_of_ble_eq_true rfl⟩) (fun r_1 u H locs h hP hD hS => ?_)
          refine lv_if_eq (tgt := 41) hx hb dX0_countCliques_28 (by decide) (fun hc => ?_) (fun hc => ?_)
          · replace h := h.1 hc
            obtain ⟨x2_2, e_x2_2⟩ : ∃ z : Int32, z = x2 + 1 := ⟨_, rfl⟩
            replace h := h x2_2 e_x2_2
            refine lv_iinc (v := x2_2) (lv' := [(2, .int x2_2), (0, .ref a_t), (1, .ref a_n2)]) hx hb dX0_countCliques_41 hl (k := 2) rfl (by rw [e_x2_2]; rfl) (by decide) rfl (fun ls hl => ?_)
            refine lv_goto (tgt := 7) hx hb dX0_countCliques_44 (by decide) ?_
            exact hag x2_2 n2 H locs ls h hP hD hS (lv_sub hl [1, 2, 0] rfl)
          · replace h := h.2 hc
            refine lv_aload_n hx hb dX0_countCliques_31 rfl (lv_at hl 1 rfl) ?_
            refine lv_iload_n hx hb dX0_countCliques_32 rfl (lv_at hl 2 rfl) ?_
            have hs9 : List.map (fun i : Nat => (w_X0_countCliques_n1 g a_t a_t_free a_n2 t_count t_free n2)[i]?) [] = List.map some (w_J6_bitCount_0f7a4 g) := rfl
            have hd9 : va_nd [] = true := rfl
            refine g_callI (w1 := fun u : Unit => w_J6_bitCount_0f7a4 g) (wn := fun u : Unit => w_X0_countCliques_n1 g a_t a_t_free a_n2 t_count t_free n2) (g_mk hK hN hZ hA hP hD hS) hs9 (jn_id (g_mk hK hN hZ hA hP hD hS) hs9) (g_runS (As := [.int x2]) (rest := [.ref a_n2]) (g_mk hK hN hZ hA hP hD hS) ⟨hx, hb, hml, hown, hts⟩ [] hd9 hs9 (ct_J6_bitCount_0f7a4 l g x2 h _) (va_cwS 1 hts gX0_countCliques_J6_bitCount_0f7a4 rfl rfl rfl (by decide +kernel) ⟨Nat.le_of_ble_eq_true rfl, Nat.le_of_ble_eq_true rfl⟩) rfl hl.1 rfl (Nat.le_of_ble_eq_true rfl) dX0_countCliques_33 ⟨Nat.le_of_ble_eq_true rfl, Nat.le_of_ble_eq_true rfl⟩) (fun r_3 u H locs h hP hD hS => ?_)
            refine lv_dup2_11 hx hb dX0_countCliques_36 rfl rfl ?_
            refine va_lald hx hb hK hP 2 1 rfl rfl h.1 dX0_countCliques_37 ?_
            replace h := h.2
            refine lv_lconst (v := 1) hx hb dX0_countCliques_38 (by decide) ?_
            refine lv_ladd hx hb dX0_countCliques_39 ?_
            refine va_last hx hb hK hP hD hS 2 1 rfl rfl h.1 dX0_countCliques_40 (fun H locs hP hD hS => ?_)
            replace h := h.2
            replace hP : va_P g.1 vwCl (w_X0_countCliques_n1 g a_t a_t_free a_n2 t_count t_free (vp_updL n2 r_3.toNatClampNeg ((n2 r_3.toNatClampNeg) + 1))) H := hP
            replace hD : va_D A (w_X0_countCliques_n1 g a_t a_t_free a_n2 t_count t_free (vp_updL n2 r_3.toNatClampNeg ((n2 r_3.toNatClampNeg) + 1))) := hD
            obtain ⟨x2_4, e_x2_4⟩ : ∃ z : Int32, z = x2 + 1 := ⟨_, rfl⟩
            replace h := h x2_4 e_x2_4
            refine lv_iinc (v := x2_4) (lv' := [(2, .int x2_4), (0, .ref a_t), (1, .ref a_n2)]) hx hb dX0_countCliques_41 hl (k := 2) rfl (by rw [e_x2_4]; rfl) (by decide) rfl (fun ls hl => ?_)
            refine lv_goto (tgt := 7) hx hb dX0_countCliques_44 (by decide) ?_
            exact hag x2_4 (vp_updL n2 r_3.toNatClampNeg ((n2 r_3.toNatClampNeg) + 1)) H locs ls h hP hD hS (lv_sub hl [1, 2, 0] rfl)
  refine lv_bipush (v := 7) hx hb dX0_countCliques_0 (by decide) ?_
  refine g_newJ 7 hx hb (hts (.arrayClass .long) (List.mem_of_getElem? (i := 1) rfl)) hK hP hD hS hA (by decide) (by decide) (Nat.le_of_ble_eq_true rfl) (Nat.le_of_ble_eq_true rfl) (Nat.le_of_ble_eq_true rfl) dX0_countCliques_2 (fun a_n2 H hP hD hS => ?_)
  refine W.widen (k := 1) (n := 7) (Nat.le_of_ble_eq_true rfl) (Nat.le_of_ble_eq_true rfl) ?_
  replace hP : va_P g.1 vwCl (w_X0_countCliques_n1 g a_t a_t_free a_n2 t_count t_free (fun _ => 0)) H := hP
  replace hD : va_D A (w_X0_countCliques_n1 g a_t a_t_free a_n2 t_count t_free (fun _ => 0)) := hD
  refine lv_astore_n (lv' := [(1, .ref a_n2), (0, .ref a_t)]) hx hb dX0_countCliques_4 rfl hl (by decide) rfl (fun ls hl => ?_)
  refine lv_iconst (v := 0) hx hb dX0_countCliques_5 (by decide) ?_
  refine lv_istore_n (lv' := [(2, .int 0), (1, .ref a_n2), (0, .ref a_t)]) hx hb dX0_countCliques_6 rfl hl (by decide) rfl (fun ls hl => ?_)
  refine hL7 a_n2 _ (fun n2_5 H locs ls h hP hD hS hl => ?_) 0 (fun _ => 0) H locs ls h hP hD hS (lv_sub hl [2, 1, 0] rfl)
  refine lv_aload_n hx hb dX0_countCliques_47 rfl (lv_at hl 0 rfl) ?_
  refine W.widen (k := 1) (n := 7) (Nat.le_of_ble_eq_true rfl) (Nat.le_of_ble_eq_true rfl) ?_
  exact hE n2_5 a_n2 H locs _ ls hP hD hS h dX0_countCliques_48
/-! X0_countDifferent -/
def wp_X0_countDifferent_L41 (K : Int64 → Prop) (kx95 : Int64 → Prop) (n13 : Nat → Int64) (n19 : Nat → Int64) (x4 : Int32) (again : Int64 → Int32 → Prop) (x5 : Int64) (x7 : Int32) : Prop := ((x4 < x7 → kx95 x5) ∧ (¬ x4 < x7 → ((6 < x7 → kx95 x5) ∧ (¬ 6 < x7 → vp_in x7 7 ∧ vp_in (x4 - x7) 17 ∧ ∀ x8_2 : Int64, x8_2 = ((n13 x7.toNatClampNeg) * (n19 (x4 - x7).toNatClampNeg)) → (((x7 &&& 1) = 0 → ∀ x5_3 : Int64, x5_3 = (x5 + (-x8_2)) → ∀ x7_4 : Int32, x7_4 = x7 + 1 → again x5_3 x7_4) ∧ (¬ (x7 &&& 1) = 0 → ∀ x5_5 : Int64, x5_5 = (x5 + x8_2) → ∀ x7_6 : Int32, x7_6 = x7 + 1 → again x5_5 x7_6))))))
def lf_X0_countDifferent_L41 (K : Int64 → Prop) (kx95 : Int64 → Prop) (n13 : Nat → Int64) (n19 : Nat → Int64) (x4 : Int32) (again : (Int64 × Int32) → Prop) (st : Int64 × Int32) : Prop := wp_X0_countDifferent_L41 K kx95 n13 n19 x4 (fun b0 b1 => again (b0, b1)) st.1 st.2
def lp_X0_countDifferent_L41 (K : Int64 → Prop) (kx95 : Int64 → Prop) (n13 : Nat → Int64) (n19 : Nat → Int64) (x4 : Int32) (x5 : Int64) (x7 : Int32) : Prop := ∃ nn : Nat, itr (lf_X0_countDifferent_L41 K kx95 n13 n19 x4) nn (x5, x7)
theorem lp_X0_countDifferent_L41_of {K : Int64 → Prop} (kx95 : Int64 → Prop) (n13 : Nat → Int64) (n19 : Nat → Int64) (x4 : Int32) (I : Int64 → Int32 → Prop) (μ : Int64 → Int32 → Nat) (hs : ∀ (again : Int64 → Int32 → Prop) (x5 : Int64) (x7 : Int32), I x5 x7 → (∀ b0 b1, I b0 b1 → μ b0 b1 < μ x5 x7 → again b0 b1) → wp_X0_countDifferent_L41 K kx95 n13 n19 x4 again x5 x7) (x5 : Int64) (x7 : Int32) (h : I x5 x7) : lp_X0_countDifferent_L41 K kx95 n13 n19 x4 x5 x7 := itr_ex _ (fun (st : Int64 × Int32) => I st.1 st.2) (fun (st : Int64 × Int32) => μ st.1 st.2) (fun again st hI ih => hs (fun b0 b1 => again (b0, b1)) st.1 st.2 hI (fun b0 b1 h1 h2 => ih (b0, b1) h1 h2)) (x5, x7) h
def wp_X0_countDifferent_L29 (K : Int64 → Prop) (kx107 : (Nat → Int64) → Prop) (n13 : Nat → Int64) (x1 : Int32) (again : Int32 → (Nat → Int64) → Prop) (x4 : Int32) (n19 : Nat → Int64) : Prop := ((x1 < x4 → kx107 n19) ∧ (¬ x1 < x4 → lp_X0_countDifferent_L41 K (fun x5_7 => vp_in x4 17 ∧ ∀ x4_8 : Int32, x4_8 = x4 + 1 → again x4_8 (vp_updL n19 x4.toNatClampNeg x5_7)) n13 n19 x4 0 1))
def lf_X0_countDifferent_L29 (K : Int64 → Prop) (kx107 : (Nat → Int64) → Prop) (n13 : Nat → Int64) (x1 : Int32) (again : (Int32 × (Nat → Int64)) → Prop) (st : Int32 × (Nat → Int64)) : Prop := wp_X0_countDifferent_L29 K kx107 n13 x1 (fun b0 b1 => again (b0, b1)) st.1 st.2
def lp_X0_countDifferent_L29 (K : Int64 → Prop) (kx107 : (Nat → Int64) → Prop) (n13 : Nat → Int64) (x1 : Int32) (x4 : Int32) (n19 : Nat → Int64) : Prop := ∃ nn : Nat, itr (lf_X0_countDifferent_L29 K kx107 n13 x1) nn (x4, n19)
theorem lp_X0_countDifferent_L29_of {K : Int64 → Prop} (kx107 : (Nat → Int64) → Prop) (n13 : Nat → Int64) (x1 : Int32) (I : Int32 → (Nat → Int64) → Prop) (μ : Int32 → (Nat → Int64) → Nat) (hs : ∀ (again : Int32 → (Nat → Int64) → Prop) (x4 : Int32) (n19 : Nat → Int64), I x4 n19 → (∀ b0 b1, I b0 b1 → μ b0 b1 < μ x4 n19 → again b0 b1) → wp_X0_countDifferent_L29 K kx107 n13 x1 again x4 n19) (x4 : Int32) (n19 : Nat → Int64) (h : I x4 n19) : lp_X0_countDifferent_L29 K kx107 n13 x1 x4 n19 := itr_ex _ (fun (st : Int32 × (Nat → Int64)) => I st.1 st.2) (fun (st : Int32 × (Nat → Int64)) => μ st.1 st.2) (fun again st hI ih => hs (fun b0 b1 => again (b0, b1)) st.1 st.2 hI (fun b0 b1 h1 h2 => ih (b0, b1) h1 h2)) (x4, n19) h
def wp_X0_countDifferent (t_count : Int32) (t_free : Nat → Int32) (x1 : Int32) (K : Int64 → Prop) : Prop := ((x1 < 0 → K 0) ∧ (¬ x1 < 0 → ((x1 ≤ 16 → wp_X0_countCliques t_count t_free (fun n13_1 => vp_in 0 17 ∧ lp_X0_countDifferent_L29 K (fun n19_9 => vp_in x1 17 ∧ K (n19_9 x1.toNatClampNeg)) n13_1 x1 1 (vp_updL (fun _ => 0) (0 : Int32).toNatClampNeg 1))) ∧ (¬ x1 ≤ 16 → K 0))))
def w_X0_countDifferent (g : gT) (a_t : Nat) (a_t_free : Nat) (t_count : Int32) (t_free : Nat → Int32) : va_W := [(a_t, .inr (0, [.int t_count, .ref a_t_free])), (a_t_free, .inl (gI g, 6, .inl t_free))]
def w_X0_countDifferent_n1 (g : gT) (a_t : Nat) (a_t_free : Nat) (a_n13 : Nat) (t_count : Int32) (t_free : Nat → Int32) (n13 : Nat → Int64) : va_W := [(a_t, .inr (0, [.int t_count, .ref a_t_free])), (a_t_free, .inl (gI g, 6, .inl t_free)), (a_n13, .inl (gJ g, 7, .inr (.inl n13)))]
def w_X0_countDifferent_n2 (g : gT) (a_t : Nat) (a_t_free : Nat) (a_n13 : Nat) (a_n19 : Nat) (t_count : Int32) (t_free : Nat → Int32) (n13 : Nat → Int64) (n19 : Nat → Int64) : va_W := [(a_t, .inr (0, [.int t_count, .ref a_t_free])), (a_t_free, .inl (gI g, 6, .inl t_free)), (a_n13, .inl (gJ g, 7, .inr (.inl n13))), (a_n19, .inl (gJ g, 17, .inr (.inl n19)))]
def rm_X0_countDifferent : Room := { frames := 3, cells := 2, slots := 24, locals := 66 }
set_option maxHeartbeats 4000000 in
set_option maxRecDepth 100000 in
theorem ct_X0_countDifferent (l : Launch) (g : gT) (a_t : Nat) (a_t_free : Nat) (t_count : Int32) (t_free : Nat → Int32) (x1 : Int32) {K : Int64 → Prop} (h : wp_X0_countDifferent t_count t_free x1 K) : CL l g yX0_countDifferent wsX0_countDifferent rm_X0_countDifferent [.ref a_t, .int x1] (w_X0_countDifferent g a_t a_t_free t_count t_free) (fun (r : Int64) (u : Unit) => K r) (fun u : Unit => w_X0_countDifferent g a_t a_t_free t_count t_free) := by
  refine g_enL (cc := cX0_countDifferent) (maxL := 10) (by decide) rfl (Nat.le_of_ble_eq_true rfl) ?_
  intro p e s m args below meth c A H locs ls Q hx hb hnm hml hts hown hA hK hN hZ hP hD hS hl hE
  replace hown : s.vm.findClass RX0 = some m.cls := hown
  replace hl : lv_has ls 10 [(0, .ref a_t), (1, .int x1)] := hl
  unfold wp_X0_countDifferent at h
  have hL41 : ∀ (a_n13 : Nat) (a_n19 : Nat) (n13 : Nat → Int64) (n19 : Nat → Int64) (x4 : Int32) (kx95 : Int64 → Prop) (hk95 : ∀ (x5 : Int64) (H : Heap) (locs : List Loc) (ls : Array Slot), kx95 x5 → va_P g.1 vwCl (w_X0_countDifferent_n2 g a_t a_t_free a_n13 a_n19 t_count t_free n13 n19) H → va_D A (w_X0_countDifferent_n2 g a_t a_t_free a_n13 a_n19 t_count t_free n13 n19) → va_S A s.heap H locs → lv_has ls 10 [(1, .int x1), (2, .ref a_n13), (3, .ref a_n19), (4, .int x4), (5, .long x5)] → W p l e rm_X0_countDifferent s m args below meth c H locs 2 24 Q (F0 m 95 ls [])) (x5 : Int64) (x7 : Int32) (H : Heap) (locs : List Loc) (ls : Array Slot), lp_X0_countDifferent_L41 K kx95 n13 n19 x4 x5 x7 → va_P g.1 vwCl (w_X0_countDifferent_n2 g a_t a_t_free a_n13 a_n19 t_count t_free n13 n19) H → va_D A (w_X0_countDifferent_n2 g a_t a_t_free a_n13 a_n19 t_count t_free n13 n19) → va_S A s.heap H locs → lv_has ls 10 [(1, .int x1), (2, .ref a_n13), (3, .ref a_n19), (4, .int x4), (5, .long x5), (7, .int x7)] → W p l e rm_X0_countDifferent s m args below meth c H locs 2 24 Q (F0 m 41 ls []) := by
    intro a_n13 a_n19 n13 n19 x4 kx95 hk95
    suffices hh : ∀ (nn : Nat) (x5 : Int64) (x7 : Int32) (H : Heap) (locs : List Loc) (ls : Array Slot), itr (lf_X0_countDifferent_L41 K kx95 n13 n19 x4) nn (x5, x7) → va_P g.1 vwCl (w_X0_countDifferent_n2 g a_t a_t_free a_n13 a_n19 t_count t_free n13 n19) H → va_D A (w_X0_countDifferent_n2 g a_t a_t_free a_n13 a_n19 t_count t_free n13 n19) → va_S A s.heap H locs → lv_has ls 10 [(1, .int x1), (2, .ref a_n13), (3, .ref a_n19), (4, .int x4), (5, .long x5), (7, .int x7)] → W p l e rm_X0_countDifferent s m args below meth c H locs 2 24 Q (F0 m 41 ls []) from fun x5 x7 H locs ls h => by
      obtain ⟨nn, h⟩ := h
      exact hh nn x5 x7 H locs ls h
    intro nn
    induction nn with
    | zero => exact fun x5 x7 H locs ls h => (h : False).elim
    | succ nn hag =>
      intro x5 x7 H locs ls h hP hD hS hl
      replace h : wp_X0_countDifferent_L41 K kx95 n13 n19 x4 (fun b0 b1 => itr (lf_X0_countDifferent_L41 K kx95 n13 n19 x4) nn (b0, b1)) x5 x7 := h
      unfold wp_X0_countDifferent_L41 at h
      refine lv_iload hx hb dX0_countDifferent_41 (lv_at hl 5 rfl) ?_
      refine lv_iload hx hb dX0_countDifferent_43 (lv_at hl 3 rfl) ?_
      refine lv_icmp_gt (tgt := 95) hx hb dX0_countDifferent_45 (by decide) (fun hc => ?_) (fun hc => ?_)
      · replace h := h.1 hc
        exact hk95 x5 H locs ls h hP hD hS (lv_sub hl [0, 1, 2, 3, 4] rfl)
      · replace h := h.2 hc
        refine lv_iload hx hb dX0_countDifferent_48 (lv_at hl 5 rfl) ?_
        refine lv_bipush (v := 6) hx hb dX0_countDifferent_50 (by decide) ?_
        refine lv_icmp_gt (tgt := 95) hx hb dX0_countDifferent_52 (by decide) (fun hc => ?_) (fun hc => ?_)
        · replace h := h.1 hc
          exact hk95 x5 H locs ls h hP hD hS (lv_sub hl [0, 1, 2, 3, 4] rfl)
        · replace h := h.2 hc
          refine lv_aload_n hx hb dX0_countDifferent_55 rfl (lv_at hl 1 rfl) ?_
          refine lv_iload hx hb dX0_countDifferent_56 (lv_at hl 5 rfl) ?_
          refine va_lald hx hb hK hP 2 1 rfl rfl h.1 dX0_countDifferent_58 ?_
          replace h := h.2
          refine lv_aload_n hx hb dX0_countDifferent_59 rfl (lv_at hl 2 rfl) ?_
          refine lv_iload hx hb dX0_countDifferent_60 (lv_at hl 3 rfl) ?_
          refine lv_iload hx hb dX0_countDifferent_62 (lv_at hl 5 rfl) ?_
          refine lv_isub hx hb dX0_countDifferent_64 ?_
          refine va_lald hx hb hK hP 3 1 rfl rfl h.1 dX0_countDifferent_65 ?_
          replace h := h.2
          refine lv_lmul hx hb dX0_countDifferent_66 ?_
          refine lv_topl (fun x8_2 e_x8_2 => ?_)
          replace h := h x8_2 e_x8_2
          refine lv_lstore (lv' := [(8, .long x8_2), (1, .int x1), (2, .ref a_n13), (3, .ref a_n19), (4, .int x4), (5, .long x5), (7, .int x7)]) hx hb dX0_countDifferent_67 hl (by decide) rfl (fun ls hl => ?_)
          refine lv_lload hx hb dX0_countDifferent_69 (lv_at hl 5 rfl) ?_
          refine lv_iload hx hb dX0_countDifferent_71 (lv_at hl 6 rfl) ?_
          refine lv_iconst (v := 1) hx hb dX0_countDifferent_73 (by decide) ?_
          refine lv_iand hx hb dX0_countDifferent_74 ?_
          refine lv_if_eq (tgt := 83) hx hb dX0_countDifferent_75 (by decide) (fun hc => ?_) (fun hc => ?_)
          · replace h := h.1 hc
            refine lv_lload hx hb dX0_countDifferent_83 (lv_at hl 0 rfl) ?_
            refine lv_lneg hx hb dX0_countDifferent_85 ?_
            refine lv_ladd hx hb dX0_countDifferent_86 ?_
            refine lv_topl (fun x5_3 e_x5_3 => ?_)
            replace h := h x5_3 e_x5_3
            refine lv_lstore (lv' := [(5, .long x5_3), (8, .long x8_2), (1, .int x1), (2, .ref a_n13), (3, .ref a_n19), (4, .int x4), (7, .int x7)]) hx hb dX0_countDifferent_87 hl (by decide) rfl (fun ls hl => ?_)
            obtain ⟨x7_4, e_x7_4⟩ : ∃ z : Int32, z = x7 + 1 := ⟨_, rfl⟩
            replace h := h x7_4 e_x7_4
            refine lv_iinc (v := x7_4) (lv' := [(7, .int x7_4), (5, .long x5_3), (8, .long x8_2), (1, .int x1), (2, .ref a_n13), (3, .ref a_n19), (4, .int x4)]) hx hb dX0_countDifferent_89 hl (k := 6) rfl (by rw [e_x7_4]; rfl) (by decide) rfl (fun ls hl => ?_)
            refine lv_goto (tgt := 41) hx hb dX0_countDifferent_92 (by decide) ?_
            exact hag x5_3 x7_4 H locs ls h hP hD hS (lv_sub hl [3, 4, 5, 6, 1, 0] rfl)
          · replace h := h.2 hc
            refine lv_lload hx hb dX0_countDifferent_78 (lv_at hl 0 rfl) ?_
            refine lv_goto (tgt := 86) hx hb dX0_countDifferent_80 (by decide) ?_
            refine lv_ladd hx hb dX0_countDifferent_86 ?_
            refine lv_topl (fun x5_5 e_x5_5 => ?_)
            replace h := h x5_5 e_x5_5
            refine lv_lstore (lv' := [(5, .long x5_5), (8, .long x8_2), (1, .int x1), (2, .ref a_n13), (3, .ref a_n19), (4, .int x4), (7, .int x7)]) hx hb dX0_countDifferent_87 hl (by decide) rfl (fun ls hl => ?_)
            obtain ⟨x7_6, e_x7_6⟩ : ∃ z : Int32, z = x7 + 1 := ⟨_, rfl⟩
            replace h := h x7_6 e_x7_6
            refine lv_iinc (v := x7_6) (lv' := [(7, .int x7_6), (5, .long x5_5), (8, .long x8_2), (1, .int x1), (2, .ref a_n13), (3, .ref a_n19), (4, .int x4)]) hx hb dX0_countDifferent_89 hl (k := 6) rfl (by rw [e_x7_6]; rfl) (by decide) rfl (fun ls hl => ?_)
            refine lv_goto (tgt := 41) hx hb dX0_countDifferent_92 (by decide) ?_
            exact hag x5_5 x7_6 H locs ls h hP hD hS (lv_sub hl [3, 4, 5, 6, 1, 0] rfl)
  have hL29 : ∀ (a_n13 : Nat) (a_n19 : Nat) (n13 : Nat → Int64) (kx107 : (Nat → Int64) → Prop) (hk107 : ∀ (n19 : Nat → Int64) (H : Heap) (locs : List Loc) (ls : Array Slot), kx107 n19 → va_P g.1 vwCl (w_X0_countDifferent_n2 g a_t a_t_free a_n13 a_n19 t_count t_free n13 n19) H → va_D A (w_X0_countDifferent_n2 g a_t a_t_free a_n13 a_n19 t_count t_free n13 n19) → va_S A s.heap H locs → lv_has ls 10 [(1, .int x1), (3, .ref a_n19)] → W p l e rm_X0_countDifferent s m args below meth c H locs 2 24 Q (F0 m 107 ls [])) (x4 : Int32) (n19 : Nat → Int64) (H : Heap) (locs : List Loc) (ls : Array Slot), lp_X0_countDifferent_L29 K kx107 n13 x1 x4 n19 → va_P g.1 vwCl (w_X0_countDifferent_n2 g a_t a_t_free a_n13 a_n19 t_count t_free n13 n19) H → va_D A (w_X0_countDifferent_n2 g a_t a_t_free a_n13 a_n19 t_count t_free n13 n19) → va_S A s.heap H locs → lv_has ls 10 [(1, .int x1), (2, .ref a_n13), (3, .ref a_n19), (4, .int x4)] → W p l e rm_X0_countDifferent s m args below meth c H locs 2 24 Q (F0 m 29 ls []) := by
    intro a_n13 a_n19 n13 kx107 hk107
    suffices hh : ∀ (nn : Nat) (x4 : Int32) (n19 : Nat → Int64) (H : Heap) (locs : List Loc) (ls : Array Slot), itr (lf_X0_countDifferent_L29 K kx107 n13 x1) nn (x4, n19) → va_P g.1 vwCl (w_X0_countDifferent_n2 g a_t a_t_free a_n13 a_n19 t_count t_free n13 n19) H → va_D A (w_X0_countDifferent_n2 g a_t a_t_free a_n13 a_n19 t_count t_free n13 n19) → va_S A s.heap H locs → lv_has ls 10 [(1, .int x1), (2, .ref a_n13), (3, .ref a_n19), (4, .int x4)] → W p l e rm_X0_countDifferent s m args below meth c H locs 2 24 Q (F0 m 29 ls []) from fun x4 n19 H locs ls h => by
      obtain ⟨nn, h⟩ := h
      exact hh nn x4 n19 H locs ls h
    intro nn
    induction nn with
    | zero => exact fun x4 n19 H locs ls h => (h : False).elim
    | succ nn hag =>
      intro x4 n19 H locs ls h hP hD hS hl
      replace h : wp_X0_countDifferent_L29 K kx107 n13 x1 (fun b0 b1 => itr (lf_X0_countDifferent_L29 K kx107 n13 x1) nn (b0, b1)) x4 n19 := h
      unfold wp_X0_countDifferent_L29 at h
      refine lv_iload hx hb dX0_countDifferent_29 (lv_at hl 3 rfl) ?_
      refine lv_iload_n hx hb dX0_countDifferent_31 rfl (lv_at hl 0 rfl) ?_
      refine lv_icmp_gt (tgt := 107) hx hb dX0_countDifferent_32 (by decide) (fun hc => ?_) (fun hc => ?_)
      · replace h := h.1 hc
        exact hk107 n19 H locs ls h hP hD hS (lv_sub hl [0, 2] rfl)
      · replace h := h.2 hc
        refine lv_lconst (v := 0) hx hb dX0_countDifferent_35 (by decide) ?_
        refine lv_lstore (lv' := [(5, .long 0), (1, .int x1), (2, .ref a_n13), (3, .ref a_n19), (4, .int x4)]) hx hb dX0_countDifferent_36 hl (by decide) rfl (fun ls hl => ?_)
        refine lv_iconst (v := 1) hx hb dX0_countDifferent_38 (by decide) ?_
        refine lv_istore (lv' := [(7, .int 1), (5, .long 0), (1, .int x1), (2, .ref a_n13), (3, .ref a_n19), (4, .int x4)]) hx hb dX0_countDifferent_39 hl (by decide) rfl (fun ls hl => ?_)
        refine hL41 a_n13 a_n19 n13 n19 x4 _ (fun x5_7 H locs ls h hP hD hS hl => ?_) 0 1 H locs ls h hP hD hS (lv_sub hl [2, 3, 4, 5, 1, 0] rfl)
        refine lv_aload_n hx hb dX0_countDifferent_95 rfl (lv_at hl 2 rfl) ?_
        refine lv_iload hx hb dX0_countDifferent_96 (lv_at hl 3 rfl) ?_
        refine lv_lload hx hb dX0_countDifferent_98 (lv_at hl 4 rfl) ?_
        refine va_last hx hb hK hP hD hS 3 1 rfl rfl h.1 dX0_countDifferent_100 (fun H locs hP hD hS => ?_)
        replace h := h.2
        replace hP : va_P g.1 vwCl (w_X0_countDifferent_n2 g a_t a_t_free a_n13 a_n19 t_count t_free n13 (vp_updL n19 x4.toNatClampNeg x5_7)) H := hP
        replace hD : va_D A (w_X0_countDifferent_n2 g a_t a_t_free a_n13 a_n19 t_count t_free n13 (vp_updL n19 x4.toNatClampNeg x5_7)) := hD
        obtain ⟨x4_8, e_x4_8⟩ : ∃ z : Int32, z = x4 + 1 := ⟨_, rfl⟩
        replace h := h x4_8 e_x4_8
        refine lv_iinc (v := x4_8) (lv' := [(4, .int x4_8), (1, .int x1), (2, .ref a_n13), (3, .ref a_n19), (5, .long x5_7)]) hx hb dX0_countDifferent_101 hl (k := 3) rfl (by rw [e_x4_8]; rfl) (by decide) rfl (fun ls hl => ?_)
        refine lv_goto (tgt := 29) hx hb dX0_countDifferent_104 (by decide) ?_
        exact hag x4_8 (vp_updL n19 x4.toNatClampNeg x5_7) H locs ls h hP hD hS (lv_sub hl [1, 2, 3, 0] rfl)
  refine lv_iload_n hx hb dX0_countDifferent_0 rfl (lv_at hl 1 rfl) ?_
  refine lv_if_lt (tgt := 10) hx hb dX0_countDifferent_1 (by decide) (fun hc => ?_) (fun hc => ?_)
  · replace h := h.1 hc
    refine lv_lconst (v := 0) hx hb dX0_countDifferent_10 (by decide) ?_
    refine W.widen (k := 2) (n := 24) (Nat.le_of_ble_eq_true rfl) (Nat.le_of_ble_eq_true rfl) ?_
    exact hE 0 () H locs _ ls hP hD hS h dX0_countDifferent_11
  · replace h := h.2 hc
    refine lv_iload_n hx hb dX0_countDifferent_4 rfl (lv_at hl 1 rfl) ?_
    refine lv_bipush (v := 16) hx hb dX0_countDifferent_5 (by decide) ?_
    refine lv_icmp_le (tgt := 12) hx hb dX0_countDifferent_7 (by decide) (fun hc => ?_) (fun hc => ?_)
    · replace h := h.1 hc
      refine lv_aload_n hx hb dX0_countDifferent_12 rfl (lv_at hl 0 rfl) ?_
      have hs9 : List.map (fun i : Nat => (w_X0_countDifferent g a_t a_t_free t_count t_free)[i]?) [0, 1] = List.map some (w_X0_countCliques g a_t a_t_free t_count t_free) := rfl
      have hn9 : ∀ u : (Nat → Int64), mg [some 0, some 1, none, none] (w_X0_countCliques g a_t a_t_free t_count t_free) (w_X0_countDifferent g a_t a_t_free t_count t_free) = w_X0_countDifferent g a_t a_t_free t_count t_free := fun u => rfl
      have hd9 : va_nd [0, 1] = true := rfl
      refine g_callRa (ex := fun u => .inl (gJ g, 7, .inr (.inl u))) (g_mk hK hN hZ hA hP hD hS) hs9 (g_runVa (mc := 1) (ms := 7) (As := []) (rest := []) (g_mk hK hN hZ hA hP hD hS) ⟨hx, hb, hml, hown, hts⟩ [0, 1] hd9 hs9 (ct_X0_countCliques l g a_t a_t_free t_count t_free h _) (cwV 0 hts gX0_countDifferent_X0_countCliques rfl rfl rfl (by decide +kernel) ⟨Nat.le_of_ble_eq_true rfl, Nat.le_of_ble_eq_true rfl⟩) rfl rfl rfl rfl hl.1 rfl (Nat.le_of_ble_eq_true rfl) dX0_countDifferent_13 ⟨Nat.le_of_ble_eq_true rfl, Nat.le_of_ble_eq_true rfl⟩) (fun n13_1 a_n13 H locs h hP hD hS => ?_)
      refine W.widen (k := 1) (n := 7) (Nat.le_of_ble_eq_true rfl) (Nat.le_of_ble_eq_true rfl) ?_
      replace hP : va_P g.1 vwCl (w_X0_countDifferent_n1 g a_t a_t_free a_n13 t_count t_free n13_1) H := hP
      replace hD : va_D A (w_X0_countDifferent_n1 g a_t a_t_free a_n13 t_count t_free n13_1) := hD
      refine lv_astore_n (lv' := [(2, .ref a_n13), (0, .ref a_t), (1, .int x1)]) hx hb dX0_countDifferent_16 rfl hl (by decide) rfl (fun ls hl => ?_)
      refine lv_bipush (v := 17) hx hb dX0_countDifferent_17 (by decide) ?_
      refine g_newJ 17 hx hb (hts (.arrayClass .long) (List.mem_of_getElem? (i := 1) rfl)) hK hP hD hS hA (by decide) (by decide) (Nat.le_of_ble_eq_true rfl) (Nat.le_of_ble_eq_true rfl) (Nat.le_of_ble_eq_true rfl) dX0_countDifferent_19 (fun a_n19 H hP hD hS => ?_)
      refine W.widen (k := 2) (n := 24) (Nat.le_of_ble_eq_true rfl) (Nat.le_of_ble_eq_true rfl) ?_
      replace hP : va_P g.1 vwCl (w_X0_countDifferent_n2 g a_t a_t_free a_n13 a_n19 t_count t_free n13_1 (fun _ => 0)) H := hP
      replace hD : va_D A (w_X0_countDifferent_n2 g a_t a_t_free a_n13 a_n19 t_count t_free n13_1 (fun _ => 0)) := hD
      refine lv_astore_n (lv' := [(3, .ref a_n19), (2, .ref a_n13), (0, .ref a_t), (1, .int x1)]) hx hb dX0_countDifferent_21 rfl hl (by decide) rfl (fun ls hl => ?_)
      refine lv_aload_n hx hb dX0_countDifferent_22 rfl (lv_at hl 0 rfl) ?_
      refine lv_iconst (v := 0) hx hb dX0_countDifferent_23 (by decide) ?_
      refine lv_lconst (v := 1) hx hb dX0_countDifferent_24 (by decide) ?_
      refine va_last hx hb hK hP hD hS 3 1 rfl rfl h.1 dX0_countDifferent_25 (fun H locs hP hD hS => ?_)
      replace h := h.2
      replace hP : va_P g.1 vwCl (w_X0_countDifferent_n2 g a_t a_t_free a_n13 a_n19 t_count t_free n13_1 (vp_updL (fun _ => 0) (0 : Int32).toNatClampNeg 1)) H := hP
      replace hD : va_D A (w_X0_countDifferent_n2 g a_t a_t_free a_n13 a_n19 t_count t_free n13_1 (vp_updL (fun _ => 0) (0 : Int32).toNatClampNeg 1)) := hD
      refine lv_iconst (v := 1) hx hb dX0_countDifferent_26 (by decide) ?_
      refine lv_istore (lv' := [(4, .int 1), (3, .ref a_n19), (2, .ref a_n13), (0, .ref a_t), (1, .int x1)]) hx hb dX0_countDifferent_27 hl (by decide) rfl (fun ls hl => ?_)
      refine hL29 a_n13 a_n19 n13_1 _ (fun n19_9 H locs ls h hP hD hS hl => ?_) 1 (vp_updL (fun _ => 0) (0 : Int32).toNatClampNeg 1) H locs ls h hP hD hS (lv_sub hl [4, 2, 1, 0] rfl)
      refine lv_aload_n hx hb dX0_countDifferent_107 rfl (lv_at hl 1 rfl) ?_
      refine lv_iload_n hx hb dX0_countDifferent_108 rfl (lv_at hl 0 rfl) ?_
      refine va_lald hx hb hK hP 3 1 rfl rfl h.1 dX0_countDifferent_109 ?_
      replace h := h.2
      refine W.widen (k := 2) (n := 24) (Nat.le_of_ble_eq_true rfl) (Nat.le_of_ble_eq_true rfl) ?_
      exact hE (n19_9 x1.toNatClampNeg) () H locs _ ls (hP.sub [0, 1] rfl) (hD.sub [0, 1] (by decide) rfl) hS h dX0_countDifferent_110
    · replace h := h.2 hc
      refine lv_lconst (v := 0) hx hb dX0_countDifferent_10 (by decide) ?_
      refine W.widen (k := 2) (n := 24) (Nat.le_of_ble_eq_true rfl) (Nat.le_of_ble_eq_true rfl) ?_
      exact hE 0 () H locs _ ls hP hD hS h dX0_countDifferent_11
/-! X10_different -/
def wp_X10_different (t_now_alphabet_count : Int32) (t_now_alphabet_free : Nat → Int32) (x1 : Int32) (K : Int64 → Prop) : Prop := ((x1 < 0 → K (-2)) ∧ (¬ x1 < 0 → ((x1 ≤ 16 → wp_X0_countDifferent t_now_alphabet_count t_now_alphabet_free x1 (fun r_1 => K r_1)) ∧ (¬ x1 ≤ 16 → K (-2)))))
def w_X10_different (g : gT) (a_t : Nat) (a_t_now : Nat) (a_t_slots : Nat) (a_t_saved : Nat) (a_t_text : Nat) (a_t_draft : Nat) (a_t_places : Nat) (a_t_otherPlaces : Nat) (a_t_prefixes : Nat) (a_t_counter : Nat) (a_t_tree : Nat) (a_t_matcher : Nat) (a_t_now_alphabet : Nat) (a_t_now_words : Nat) (a_t_now_recogniser : Nat) (a_t_now_alphabet_free : Nat) (t_now_alphabet_count : Int32) (t_now_alphabet_free : Nat → Int32) : va_W := [(a_t, .inr (10, [.ref a_t_now, .ref a_t_slots, .ref a_t_saved, .ref a_t_text, .ref a_t_draft, .ref a_t_places, .ref a_t_otherPlaces, .ref a_t_prefixes, .ref a_t_counter, .ref a_t_tree, .ref a_t_matcher])), (a_t_now, .inr (6, [.ref a_t_now_alphabet, .ref a_t_now_words, .ref a_t_now_recogniser])), (a_t_now_alphabet, .inr (0, [.int t_now_alphabet_count, .ref a_t_now_alphabet_free])), (a_t_now_alphabet_free, .inl (gI g, 6, .inl t_now_alphabet_free))]
def rm_X10_different : Room := { frames := 4, cells := 2, slots := 24, locals := 95 }
theorem iw_X10_different_X10 : ∀ w ∈ wsX100, w ∈ wsX10_different := fun _ h => List.mem_cons_of_mem _ (List.mem_append_left _ (List.mem_append_left _ (List.mem_append_right _ h)))
theorem iw_X10_different_X6 : ∀ w ∈ wsX60, w ∈ wsX10_different := fun _ h => List.mem_cons_of_mem _ (List.mem_append_left _ (List.mem_append_right _ h))
set_option maxHeartbeats 4000000 in
set_option maxRecDepth 100000 in
theorem ct_X10_different (l : Launch) (g : gT) (a_t : Nat) (a_t_now : Nat) (a_t_slots : Nat) (a_t_saved : Nat) (a_t_text : Nat) (a_t_draft : Nat) (a_t_places : Nat) (a_t_otherPlaces : Nat) (a_t_prefixes : Nat) (a_t_counter : Nat) (a_t_tree : Nat) (a_t_matcher : Nat) (a_t_now_alphabet : Nat) (a_t_now_words : Nat) (a_t_now_recogniser : Nat) (a_t_now_alphabet_free : Nat) (t_now_alphabet_count : Int32) (t_now_alphabet_free : Nat → Int32) (x1 : Int32) {K : Int64 → Prop} (h : wp_X10_different t_now_alphabet_count t_now_alphabet_free x1 K) : CL l g yX10_different wsX10_different rm_X10_different [.ref a_t, .int x1] (w_X10_different g a_t a_t_now a_t_slots a_t_saved a_t_text a_t_draft a_t_places a_t_otherPlaces a_t_prefixes a_t_counter a_t_tree a_t_matcher a_t_now_alphabet a_t_now_words a_t_now_recogniser a_t_now_alphabet_free t_now_alphabet_count t_now_alphabet_free) (fun (r : Int64) (u : Unit) => K r) (fun u : Unit => w_X10_different g a_t a_t_now a_t_slots a_t_saved a_t_text a_t_draft a_t_places a_t_otherPlaces a_t_prefixes a_t_counter a_t_tree a_t_matcher a_t_now_alphabet a_t_now_words a_t_now_recogniser a_t_now_alphabet_free t_now_alphabet_count t_now_alphabet_free) := by
  refine g_enL (cc := cX10_different) (maxL := 2) (by decide) rfl (Nat.le_of_ble_eq_true rfl) ?_
  intro p e s m args below meth c A H locs ls Q hx hb hnm hml hts hown hA hK hN hZ hP hD hS hl hE
  replace hown : s.vm.findClass RX10 = some m.cls := hown
  replace hl : lv_has ls 2 [(0, .ref a_t), (1, .int x1)] := hl
  unfold wp_X10_different at h
  refine lv_iload_n hx hb dX10_different_0 rfl (lv_at hl 1 rfl) ?_
  refine lv_if_lt (tgt := 10) hx hb dX10_different_1 (by decide) (fun hc => ?_) (fun hc => ?_)
  · replace h := h.1 hc
    refine lv_ldc2 (v := (-2)) hx hb hown (hts (.constantLong RX10 110 (-2)) (List.mem_of_getElem? (i := 1) rfl)) dX10_different_10 ?_
    refine W.widen (k := 2) (n := 24) (Nat.le_of_ble_eq_true rfl) (Nat.le_of_ble_eq_true rfl) ?_
    exact hE (-2) () H locs _ ls hP hD hS h dX10_different_13
  · replace h := h.2 hc
    refine lv_iload_n hx hb dX10_different_4 rfl (lv_at hl 1 rfl) ?_
    refine lv_bipush (v := 16) hx hb dX10_different_5 (by decide) ?_
    refine lv_icmp_le (tgt := 14) hx hb dX10_different_7 (by decide) (fun hc => ?_) (fun hc => ?_)
    · replace h := h.1 hc
      refine lv_aload_n hx hb dX10_different_14 rfl (lv_at hl 0 rfl) ?_
      refine va_get (ci := 10) (C := RX10) (T := TX10) (N := 11) hx hb hts (iw_X10_different_X10) hown hK hP (0) rfl rfl 0 (by decide) (hts (.fieldLink RX10 12 "CommutingWords" "now" "LCommutingWords$Setting;") (List.mem_of_getElem? (i := 2) rfl)) (fun _ h9 => h9) rfl dX10_different_15 ?_
      refine va_getN (ci := 6) (C := RX6) (T := TX6) (N := 3) hx hb hts (iw_X10_different_X6) hown hK hP (1) rfl rfl 0 (by decide) (hN.at 8 (w := .fieldLinkNest RX10 76 "CommutingWords$Setting" "alphabet" "LCommutingWords$Alphabet;" "CommutingWords") rfl rfl) (fun _ h9 => h9) rfl dX10_different_18 ?_
      refine lv_iload_n hx hb dX10_different_21 rfl (lv_at hl 1 rfl) ?_
      have hs9 : List.map (fun i : Nat => (w_X10_different g a_t a_t_now a_t_slots a_t_saved a_t_text a_t_draft a_t_places a_t_otherPlaces a_t_prefixes a_t_counter a_t_tree a_t_matcher a_t_now_alphabet a_t_now_words a_t_now_recogniser a_t_now_alphabet_free t_now_alphabet_count t_now_alphabet_free)[i]?) [2, 3] = List.map some (w_X0_countDifferent g a_t_now_alphabet a_t_now_alphabet_free t_now_alphabet_count t_now_alphabet_free) := rfl
      have hd9 : va_nd [2, 3] = true := rfl
      refine g_callLa (g_mk hK hN hZ hA hP hD hS) hs9 (g_runVa (mc := 2) (ms := 24) (As := [.int x1]) (rest := []) (g_mk hK hN hZ hA hP hD hS) ⟨hx, hb, hml, hown, hts⟩ [2, 3] hd9 hs9 (ct_X0_countDifferent l g a_t_now_alphabet a_t_now_alphabet_free t_now_alphabet_count t_now_alphabet_free x1 h _) (cwV 1 hts gX10_different_X0_countDifferent rfl rfl rfl (by decide +kernel) ⟨Nat.le_of_ble_eq_true rfl, Nat.le_of_ble_eq_true rfl⟩) rfl rfl rfl rfl hl.1 rfl (Nat.le_of_ble_eq_true rfl) dX10_different_22 ⟨Nat.le_of_ble_eq_true rfl, Nat.le_of_ble_eq_true rfl⟩) (fun r_1 H locs h hP hD hS => ?_)
      refine W.widen (k := 2) (n := 24) (Nat.le_of_ble_eq_true rfl) (Nat.le_of_ble_eq_true rfl) ?_
      refine W.widen (k := 2) (n := 24) (Nat.le_of_ble_eq_true rfl) (Nat.le_of_ble_eq_true rfl) ?_
      exact hE r_1 () H locs _ ls hP hD hS h dX10_different_25
    · replace h := h.2 hc
      refine lv_ldc2 (v := (-2)) hx hb hown (hts (.constantLong RX10 110 (-2)) (List.mem_of_getElem? (i := 1) rfl)) dX10_different_10 ?_
      refine W.widen (k := 2) (n := 24) (Nat.le_of_ble_eq_true rfl) (Nat.le_of_ble_eq_true rfl) ?_
      exact hE (-2) () H locs _ ls hP hD hS h dX10_different_13
