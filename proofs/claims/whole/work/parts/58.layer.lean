/-! the worlds of this claim: class numbers, array classes, the one static row -/
abbrev gT : Type := va_G × (ClassId × ClassId × ClassId × ClassId × ClassId) × Nat
abbrev gI (g : gT) : ClassId := g.2.1.1
abbrev gJ (g : gT) : ClassId := g.2.1.2.1
abbrev gB (g : gT) : ClassId := g.2.1.2.2.1
abbrev gS (g : gT) : ClassId := g.2.1.2.2.2.1
abbrev gW (g : gT) : ClassId := g.2.1.2.2.2.2
def gty (g : gT) : List (ClassId × FieldType) := [(gI g, .int), (gJ g, .long), (gB g, .boolean), (gS g, .object RX6), (gW g, .object RX9)]
def nestW : List Cond := [.fieldLinkNest RX3 24 "CommutingWords$Alphabet" "count" "I" "CommutingWords",
  .fieldLinkNest RX4 29 "CommutingWords$Alphabet" "count" "I" "CommutingWords",
  .fieldLinkNest RX10 80 "CommutingWords$Alphabet" "count" "I" "CommutingWords",
  .fieldLinkNest RX5 29 "CommutingWords$Alphabet" "count" "I" "CommutingWords",
  .fieldLinkNest RX1 35 "CommutingWords$Recogniser" "states" "I" "CommutingWords",
  .fieldLinkNest RX10 235 "CommutingWords$Recogniser" "states" "I" "CommutingWords",
  .fieldLinkNest RX3 45 "CommutingWords$Word" "size" "I" "CommutingWords",
  .fieldLinkNest RX10 123 "CommutingWords$Word" "size" "I" "CommutingWords",
  .fieldLinkNest RX10 76 "CommutingWords$Setting" "alphabet" "LCommutingWords$Alphabet;" "CommutingWords",
  .fieldLinkNest RX10 119 "CommutingWords$Setting" "words" "[LCommutingWords$Word;" "CommutingWords",
  .fieldLinkNest RX10 231 "CommutingWords$Setting" "recogniser" "LCommutingWords$Recogniser;" "CommutingWords",
  .fieldLinkNest RX8 53 "CommutingWords$Text" "size" "I" "CommutingWords",
  .fieldLinkNest RX10 210 "CommutingWords$Text" "size" "I" "CommutingWords",
  .fieldLinkNest RX4 58 "CommutingWords$Places" "taken" "I" "CommutingWords",
  .fieldLinkNest RX1 24 "CommutingWords$Prefixes" "letters" "I" "CommutingWords",
  .fieldLinkNest RX2 57 "CommutingWords$Prefixes" "letters" "I" "CommutingWords",
  .fieldLinkNest RX1 15 "CommutingWords$Prefixes" "size" "I" "CommutingWords",
  .fieldLinkNest RX2 40 "CommutingWords$Prefixes" "size" "I" "CommutingWords",
  .fieldLinkNest RX2 101 "CommutingWords$Tree" "kind" "[I" "CommutingWords",
  .fieldLinkNest RX2 90 "CommutingWords$Tree" "left" "[I" "CommutingWords",
  .fieldLinkNest RX2 94 "CommutingWords$Tree" "right" "[I" "CommutingWords",
  .fieldLinkNest RX2 89 "CommutingWords$Tree" "size" "I" "CommutingWords",
  .fieldLinkNest RX2 30 "CommutingWords$Tree" "top" "I" "CommutingWords",
  .methodLinkNest RX6 11 yX0_init "CommutingWords",
  .methodLinkNest RX6 26 yX5_init "CommutingWords",
  .methodLinkNest RX6 31 yX9_init "CommutingWords",
  .methodLinkNest RX10 26 yX7_init "CommutingWords",
  .methodLinkNest RX10 33 yX9_init "CommutingWords",
  .methodLinkNest RX10 40 yX3_init "CommutingWords",
  .methodLinkNest RX10 50 yX4_init "CommutingWords",
  .methodLinkNest RX4 11 yX3_init "CommutingWords",
  .methodLinkNest RX10 57 yX1_init "CommutingWords",
  .methodLinkNest RX10 64 yX8_init "CommutingWords",
  .methodLinkNest RX10 71 yX2_init "CommutingWords",
  .methodLinkNest RX2 36 yX8_isNode "CommutingWords",
  .methodLinkNest RX2 110 yX8_leastOf "CommutingWords"]
def isNest : Cond → Bool
  | .fieldLinkNest .. => true
  | .methodLinkNest .. => true
  | _ => false
theorem nest_all : nestW.all isNest = true := by decide +kernel
def gN (U : State) : Prop := (∀ w ∈ nestW, va_Nw w U) ∧ va_AO RX6 U ∧ va_AO RX9 U
theorem nest_warm {w : Cond} (h : isNest w = true) {s U : State} (hW : s.WarmedH U.vm) (hw : va_Nw w s) : va_Nw w U := by
  cases w with
  | fieldLinkNest a i b n d hh => exact va_Nw.warmF hW hw
  | methodLinkNest a i x hh => exact va_Nw.warmM hW hw
  | _ => simp [isNest] at h
theorem gN.warm {s U : State} (hW : s.WarmedH U.vm) (h : gN s) : gN U := ⟨fun w hw => nest_warm (List.all_eq_true.mp nest_all w hw) hW (h.1 w hw), h.2.1.moved hW.alike, h.2.2.moved hW.alike⟩
theorem nest_same {w : Cond} (h : isNest w = true) {u U : State} (hv : u.vm = U.vm) (hw : va_Nw w u) : va_Nw w U := by
  cases w with
  | fieldLinkNest a i b n d hh => exact va_Nw.same rfl hv hw
  | methodLinkNest a i x hh => exact va_Nw.same rfl hv hw
  | _ => simp [isNest] at h
theorem gN.same {u U : State} (hv : u.vm = U.vm) (h : gN u) : gN U := ⟨fun w hw => nest_same (List.all_eq_true.mp nest_all w hw) hv (h.1 w hw), h.2.1.moved (hv ▸ Vm.Alike.refl u.vm), h.2.2.moved (hv ▸ Vm.Alike.refl u.vm)⟩
theorem gN.at {s : State} (h : gN s) (k : Nat) {w : Cond} (hk : nestW[k]? = some w) (ho : w.onTables = true) {A : Array Value} : w.before A s = true := va_Nw.use ho (h.1 w (List.mem_of_getElem? hk))
def gSt (g : gT) (A : Nat → Prop) (U : State) (H : Heap) : Prop := va_Z RX8 "SETS_WITH" "[J" (.ref g.2.2) A U H ∧ va_T .long g.2.2 6 (fun j => .long (sw j)) A U H
def gPre (g : gT) (w0 : va_W) (sz : Nat) (U : State) : Prop := U.heap.size = sz ∧ va_P g.1 vwCl w0 U.heap ∧ (va_K g.1 vwCl (gty g) U ∧ gN U) ∧ gSt g (va_A w0 sz) U U.heap ∧ va_D (fun _ => True) w0
def gPost (g : gT) (A : Nat → Prop) {S : Type} (w1 : S → va_W) : S → State → Prop := fun u t => va_P g.1 vwCl (w1 u) t.heap ∧ va_D A (w1 u)
/-! a method's contract: from the world w0 with the arguments av it answers r and leaves the world w1 u, where post r u -/
def CI (l : Launch) (g : gT) (y : MethodName) (ws : List Cond) (rm : Room) (av : List Value) (w0 : va_W) {S : Type} (post : Int32 → S → Prop) (w1 : S → va_W) : Prop :=
  ∀ sz : Nat, Met l y ws rm (va_Pc av (gPre g w0 sz)) (va_Qi post (gPost g (va_A w0 sz) w1) (va_A w0 sz)) rm.cells rm.slots (va_A w0 sz)
def CL (l : Launch) (g : gT) (y : MethodName) (ws : List Cond) (rm : Room) (av : List Value) (w0 : va_W) {S : Type} (post : Int64 → S → Prop) (w1 : S → va_W) : Prop :=
  ∀ sz : Nat, Met l y ws rm (va_Pc av (gPre g w0 sz)) (va_Ql post (gPost g (va_A w0 sz) w1) (va_A w0 sz)) rm.cells rm.slots (va_A w0 sz)
def CV (l : Launch) (g : gT) (y : MethodName) (ws : List Cond) (rm : Room) (av : List Value) (w0 : va_W) {S : Type} (post : S → Prop) (w1 : S → va_W) : Prop :=
  ∀ sz : Nat, Met l y ws rm (va_Pc av (gPre g w0 sz)) (va_Qv post (gPost g (va_A w0 sz) w1) (va_A w0 sz)) rm.cells rm.slots (va_A w0 sz)
def CR (l : Launch) (g : gT) (y : MethodName) (ws : List Cond) (rm : Room) (av : List Value) (w0 : va_W) {S : Type} (post : S → Prop) (w1 : S → Nat → va_W) : Prop :=
  ∀ sz : Nat, Met l y ws rm (va_Pc av (gPre g w0 sz)) (va_Qr post (fun u a t => va_P g.1 vwCl (w1 u a) t.heap ∧ va_D (va_A w0 sz) (w1 u a)) (va_A w0 sz)) rm.cells rm.slots (va_A w0 sz)
/-- the walk of a body, from its entry -/
theorem g_enter {l : Launch} {g : gT} {y : MethodName} {ws ws' : List Cond} {rm : Room} {av : List Value} {w0 : va_W} {Qc : (Nat → Prop) → Array Value → State → Outcome → State → Prop} {cc : ByteArray} {maxL : Nat} {ret : Option FieldType}
    (hy : plainName y.cls = true) (hw : ws = Cond.code y cc maxL ret :: ws') (hlen : (lg_sl av).length ≤ maxL)
    (body : ∀ (p : Program) (e : Env) (s : State) (m : MethodId) (below : List Frame) (meth : Method) (c : Code) (A : Nat → Prop) (ls : Array Slot), p.tables.exec = Jvm.exec → c.code = cc → meth.sig.returnType = ret → meth.locks = false → meth.name = y.name → c.maxLocals = maxL →
      (∀ w ∈ ws, w.before av.toArray s = true) → s.vm.findClass y.cls = some m.cls → (∀ q : Nat, s.heap.size ≤ q → A q) → va_K g.1 vwCl (gty g) s → gN s → gSt g A s s.heap → va_P g.1 vwCl w0 s.heap → va_D A w0 → va_S A s.heap s.heap [] → lv_has ls maxL (lv_args 0 av) →
      W p l e rm s m av.toArray below meth c s.heap [] 0 0 (MQ below (Qc A) av.toArray s rm.cells rm.slots A) (F0 m 0 ls [])) (sz : Nat) :
    Met l y ws rm (va_Pc av (gPre g w0 sz)) (Qc (va_A w0 sz)) rm.cells rm.slots (va_A w0 sz) := by
  refine Met.ofW (cc := cc) (maxL := maxL) (ret := ret) hy hw ?_
  intro p e s m args below meth c s₁ B hml hv
  obtain ⟨rfl, hsz, hP, ⟨hK, hN⟩, hZ, hD0⟩ := hv
  have hts := atoms_spec (ws := ws) B.pre
  have hown : s.vm.findClass y.cls = some m.cls := findClass_of_methodNamed B.named
  subst hsz
  have hD := hD0.self (sz := s.heap.size)
  have hl := lv_entry av hlen
  rw [lg_entry_eq]
  exact body p e s m below meth c (va_A w0 s.heap.size) _ B.exec B.bytes B.returns B.notSynchronized (name_of_methodNamed B.named B.method).1 hml hts hown (fun q h => Or.inr h) hK hN hZ hP hD va_S.rf hl
/-! the world behind a call -/
def rp : List Nat → va_W → va_W → va_W
  | k :: is, c :: w1, ws => rp is w1 (ws.set k c)
  | _, _, ws => ws
theorem rp_mem : ∀ (is : List Nat) (w1 ws : va_W), is.length = w1.length → ∀ (k : Nat) (q : Nat × va_E), (rp is w1 ws)[k]? = some q → q ∈ w1 ∨ ∃ j, j ∉ is ∧ ws[j]? = some q
  | [], w1, ws, _, k, q, h => Or.inr ⟨k, List.not_mem_nil, by rw [rp] at h; exact h; intros; simp_all⟩
  | i :: is, [], ws, hl, k, q, h => by simp at hl
  | i :: is, c :: w1, ws, hl, k, q, h => by
    rw [rp] at h
    rcases rp_mem is w1 (ws.set i c) (by simpa using hl) k q h with h | ⟨j, h1, h2⟩
    · exact Or.inl (List.mem_cons_of_mem _ h)
    · by_cases hj : j = i
      · subst hj
        by_cases hlt : j < ws.length
        · rw [List.getElem?_set_self hlt] at h2
          cases h2
          exact Or.inl List.mem_cons_self
        · rw [List.getElem?_eq_none (by simpa using hlt)] at h2
          cases h2
      · rw [List.getElem?_set_ne (Ne.symm hj)] at h2
        exact Or.inr ⟨j, fun hm => by rcases List.mem_cons.mp hm with h | h; exact hj h; exact h1 h, h2⟩
theorem rp_fst : ∀ (is : List Nat) (w1 ws : va_W), is.map (fun i => (ws.map Prod.fst)[i]?) = (w1.map Prod.fst).map some → (rp is w1 ws).map Prod.fst = ws.map Prod.fst
  | [], w1, ws, _ => by rw [rp]; intros; simp_all
  | i :: is, [], ws, h => by simp at h
  | i :: is, c :: w1, ws, h => by
    rw [rp]
    simp only [List.map_cons, List.cons.injEq] at h
    obtain ⟨h1, h2⟩ := h
    have e : (ws.set i c).map Prod.fst = ws.map Prod.fst := by
      rw [List.map_set]
      apply List.ext_getElem?
      intro n
      by_cases hn : n = i
      · subst hn
        by_cases hlt : n < (ws.map Prod.fst).length
        · rw [List.getElem?_set_self hlt, h1]
        · rw [List.getElem?_eq_none (by simpa using hlt), List.getElem?_eq_none (by simpa using hlt)]
      · rw [List.getElem?_set_ne (Ne.symm hn)]
    rw [rp_fst is w1 (ws.set i c) (by rw [e]; exact h2), e]
/-- addresses that are the same are as far apart -/
theorem va_D_fst {A : Nat → Prop} {ws wn : va_W} (h : wn.map Prod.fst = ws.map Prod.fst) (hD : va_D A ws) : va_D A wn := by
  have key : ∀ (k : Nat) (q : Nat × va_E), wn[k]? = some q → ∃ p, ws[k]? = some p ∧ p.1 = q.1 := by
    intro k q hk
    have h1 : (wn.map Prod.fst)[k]? = some q.1 := by rw [List.getElem?_map, hk]; rfl
    rw [h, List.getElem?_map] at h1
    cases hp : ws[k]? with
    | none => rw [hp] at h1; cases h1
    | some p => rw [hp] at h1; exact ⟨p, rfl, Option.some.inj h1⟩
  refine ⟨fun i j x y hi hj hxy => ?_, fun k q hk => ?_⟩
  · obtain ⟨p, h1, h2⟩ := key i x hi
    obtain ⟨r, h3, h4⟩ := key j y hj
    exact hD.1 i j p r h1 h3 (by rw [h2, h4]; exact hxy)
  · obtain ⟨p, h1, h2⟩ := key k q hk
    rw [← h2]
    exact hD.2 k p h1
theorem g_at {ws w : va_W} {is : List Nat} (hs : is.map (fun i => ws[i]?) = w.map some) (k : Nat) (q : Nat × va_E) (hq : w[k]? = some q) : ∃ i, is[k]? = some i ∧ ws[i]? = some q := by
  have h1 : (is.map (fun i => ws[i]?))[k]? = some (some q) := by rw [hs, List.getElem?_map, hq]; rfl
  rw [List.getElem?_map] at h1
  cases hi : is[k]? with
  | none => rw [hi] at h1; cases h1
  | some i => rw [hi] at h1; exact ⟨i, rfl, Option.some.inj h1⟩
/-- a part of a world is a world; each of its places once -/
theorem g_sub {g : gT} {A : Nat → Prop} {ws wc : va_W} {H : Heap} (hP : va_P g.1 vwCl ws H) (is : List Nat) (hs : is.map (fun i => ws[i]?) = wc.map some) : va_P g.1 vwCl wc H := fun k q hq => by
  obtain ⟨i, -, h⟩ := g_at hs k q hq
  exact hP i q h
theorem g_join {g : gT} {A : Nat → Prop} {ws wc w1 : va_W} {H H1 : Heap} (hP : va_P g.1 vwCl ws H) (hD : va_D A ws) (is : List Nat) (hs : is.map (fun i => ws[i]?) = wc.map some) (had : w1.map Prod.fst = wc.map Prod.fst)
    (hk : ∀ q : Nat, q < H.size → ¬ va_A wc H.size q → H1[q]? = H[q]?) (hP1 : va_P g.1 vwCl w1 H1) : va_P g.1 vwCl (rp is w1 ws) H1 ∧ va_D A (rp is w1 ws) := by
  have hlen : is.length = w1.length := by
    have h1 := congrArg List.length hs
    have h2 := congrArg List.length had
    simp only [List.length_map] at h1 h2
    omega
  have hfst : is.map (fun i => (ws.map Prod.fst)[i]?) = (w1.map Prod.fst).map some := by
    rw [had, List.map_map]
    have e := congrArg (List.map (Option.map Prod.fst)) hs
    rw [List.map_map, List.map_map] at e
    have e1 : is.map (fun i => (ws.map Prod.fst)[i]?) = is.map (Option.map Prod.fst ∘ fun i => ws[i]?) := by
      apply List.map_congr_left
      intro i _
      simp
    rw [e1, e]
    apply List.map_congr_left
    intro q _
    rfl
  refine ⟨fun k q hq => ?_, va_D_fst (rp_fst is w1 ws hfst) hD⟩
  rcases rp_mem is w1 ws hlen k q hq with h | ⟨j, h1, h2⟩
  · obtain ⟨i, hi⟩ := List.getElem?_of_mem h
    exact hP1 i q hi
  · have hl := (hP j q h2).lt
    refine (hP j q h2).kept (hk q.1 hl (fun h => ?_))
    rcases h with ⟨k2, e, h⟩ | h
    · obtain ⟨i, h3, h4⟩ := g_at hs k2 (q.1, e) h
      have hij := hD.1 j i q (q.1, e) h2 h4 rfl
      subst hij
      exact h1 (List.mem_of_getElem? h3)
    · omega
/-! three ways to say the world behind a call -/
def Jn (g : gT) (A : Nat → Prop) (wc w1 wn : va_W) (H : Heap) : Prop := ∀ H1 : Heap, (∀ q : Nat, q < H.size → ¬ va_A wc H.size q → H1[q]? = H[q]?) → va_P g.1 vwCl w1 H1 → va_P g.1 vwCl wn H1 ∧ va_D A wn
def fdx : List Nat → Nat → Nat → Option Nat
  | [], _, _ => none
  | a :: l, p, k => if a = p then some k else fdx l p (k + 1)
theorem fdx_none : ∀ (l : List Nat) (p k : Nat), fdx l p k = none → p ∉ l
  | [], _, _, _ => List.not_mem_nil
  | a :: l, p, k, h => by
    unfold fdx at h
    split at h
    · cases h
    · rename_i hne
      intro hm
      rcases List.mem_cons.mp hm with q | q
      · exact hne q.symm
      · exact fdx_none l p (k + 1) h q
theorem fdx_some : ∀ (l : List Nat) (p k j : Nat), fdx l p k = some j → ∃ i, j = k + i ∧ l[i]? = some p
  | [], _, _, _, h => by cases h
  | a :: l, p, k, j, h => by
    unfold fdx at h
    split at h
    · rename_i he
      cases h
      exact ⟨0, rfl, by rw [← he]; rfl⟩
    · obtain ⟨i, h1, h2⟩ := fdx_some l p (k + 1) j h
      exact ⟨i + 1, by omega, h2⟩
def cdo (is : List Nat) (n : Nat) : List (Option Nat) := (List.range n).map (fun p => fdx is p 0)
def mg1 (w1 : va_W) (o : Option Nat) (c : Nat × va_E) : Nat × va_E := match o with
  | none => c
  | some k => w1.getD k c
def mg (cs : List (Option Nat)) (w1 ws : va_W) : va_W := List.zipWith (mg1 w1) cs ws
theorem mg_at {cs : List (Option Nat)} {w1 ws : va_W} {p : Nat} {q : Nat × va_E} (h : (mg cs w1 ws)[p]? = some q) : ∃ o c, cs[p]? = some o ∧ ws[p]? = some c ∧ q = mg1 w1 o c := by
  unfold mg at h
  rw [List.getElem?_zipWith] at h
  cases h1 : cs[p]? with
  | none => rw [h1] at h; simp at h
  | some o =>
    cases h2 : ws[p]? with
    | none => rw [h1, h2] at h; simp at h
    | some c =>
      rw [h1, h2] at h
      exact ⟨o, c, rfl, rfl, by simpa using h.symm⟩
theorem g_joinM {g : gT} {A : Nat → Prop} {ws wc w1 : va_W} {H H1 : Heap} (hP : va_P g.1 vwCl ws H) (hD : va_D A ws) (is : List Nat) (hs : is.map (fun i => ws[i]?) = wc.map some) (had : w1.map Prod.fst = wc.map Prod.fst) {cs : List (Option Nat)} {n : Nat} (hc : cdo is n = cs)
    (hk : ∀ q : Nat, q < H.size → ¬ va_A wc H.size q → H1[q]? = H[q]?) (hP1 : va_P g.1 vwCl w1 H1) : va_P g.1 vwCl (mg cs w1 ws) H1 ∧ va_D A (mg cs w1 ws) := by
  have hlen : is.length = w1.length := by
    have h1 := congrArg List.length hs
    have h2 := congrArg List.length had
    simp only [List.length_map] at h1 h2
    omega
  have key : ∀ (p : Nat) (q : Nat × va_E), (mg cs w1 ws)[p]? = some q → ∃ c, ws[p]? = some c ∧ ((q = c ∧ p ∉ is) ∨ (q.1 = c.1 ∧ ∃ k : Nat, w1[k]? = some q)) := by
    intro p q hq
    obtain ⟨o, c, h1, h2, h3⟩ := mg_at hq
    subst hc
    unfold cdo at h1
    rw [List.getElem?_map] at h1
    cases hr : (List.range n)[p]? with
    | none => rw [hr] at h1; cases h1
    | some p' =>
      have hp' : p' = p := by
        have h5 := List.getElem?_range (show p < n by
          have := (List.getElem?_eq_some_iff.mp hr).1
          simpa using this)
        rw [h5] at hr
        exact (Option.some.inj hr).symm
      rw [hr, hp'] at h1
      have h4 : fdx is p 0 = o := Option.some.inj h1
      refine ⟨c, h2, ?_⟩
      cases o with
      | none => exact Or.inl ⟨h3, fdx_none is p 0 h4⟩
      | some k =>
        obtain ⟨i, e, h5⟩ := fdx_some is p 0 k h4
        have e' : k = i := by omega
        subst e'
        have hkl : k < w1.length := by rw [← hlen]; exact (List.getElem?_eq_some_iff.mp h5).1
        have h6 : w1[k]? = some q := by
          rw [h3]
          show w1[k]? = some (w1.getD k c)
          rw [List.getD_eq_getElem?_getD, List.getElem?_eq_getElem hkl]
          rfl
        refine Or.inr ⟨?_, k, h6⟩
        have h7 : (wc.map Prod.fst)[k]? = some q.1 := by rw [← had, List.getElem?_map, h6]; rfl
        rw [List.getElem?_map] at h7
        cases h8 : wc[k]? with
        | none => rw [h8] at h7; cases h7
        | some d =>
          rw [h8] at h7
          obtain ⟨i2, h9, h10⟩ := g_at hs k d h8
          rw [h5] at h9
          cases h9
          rw [h2] at h10
          cases h10
          exact (Option.some.inj h7).symm
  refine ⟨fun p q hq => ?_, ⟨fun i j x y hi hj hxy => ?_, fun k q hq => ?_⟩⟩
  · obtain ⟨c, h1, h2 | ⟨-, k, h3⟩⟩ := key p q hq
    · obtain ⟨rfl, hn⟩ := h2
      have hl := (hP p q h1).lt
      refine (hP p q h1).kept (hk q.1 hl (fun h => ?_))
      rcases h with ⟨k2, e, h⟩ | h
      · obtain ⟨i, h3, h4⟩ := g_at hs k2 (q.1, e) h
        have hij := hD.1 p i q (q.1, e) h1 h4 rfl
        subst hij
        exact hn (List.mem_of_getElem? h3)
      · omega
    · exact hP1 k q h3
  · obtain ⟨c, h1, h2⟩ := key i x hi
    obtain ⟨d, h3, h4⟩ := key j y hj
    have e1 : x.1 = c.1 := by rcases h2 with ⟨rfl, -⟩ | ⟨h, -⟩; rfl; exact h
    have e2 : y.1 = d.1 := by rcases h4 with ⟨rfl, -⟩ | ⟨h, -⟩; rfl; exact h
    exact hD.1 i j c d h1 h3 (by rw [← e1, ← e2]; exact hxy)
  · obtain ⟨c, h1, h2⟩ := key k q hq
    have e1 : q.1 = c.1 := by rcases h2 with ⟨rfl, -⟩ | ⟨h, -⟩; rfl; exact h
    rw [e1]
    exact hD.2 k c h1
theorem gSt.go {g : gT} {A : Nat → Prop} {s U : State} {H : Heap} {locs : List Loc} {wc : va_W} (hZ : gSt g A s s.heap) (hS : va_S A s.heap H locs) (hF : ∀ q, va_A wc H.size q → A q) (hU : U.heap = H) (hW : s.WarmedH U.vm) : gSt g (va_A wc H.size) U U.heap := by
  have hq : ∀ a : Nat, a < s.heap.size → ¬ A a → U.heap[a]? = s.heap[a]? := fun a h1 h2 => by rw [hU]; exact hS.2.1 a h1 h2
  exact ⟨((hZ.1.kept hq).narrow hF).moved hW.alike, ((hZ.2.kept hq).narrow hF).moved hW.alike⟩
theorem g_blind {g : gT} {av : List Value} {w0 : va_W} {sz : Nat} : FrameBlind (va_Pc av (gPre g w0 sz)) := by
  intro a U gg mk q
  obtain ⟨q0, q1, qP, ⟨qK, qN⟩, qZ, qD⟩ := q
  have hal : U.vm.Alike (U.calling gg mk a).vm := Vm.Alike.refl U.vm
  exact ⟨q0, q1, qP, ⟨va_K.moved hal qK, gN.same (u := U) rfl qN⟩, ⟨qZ.1.moved hal, qZ.2.moved hal⟩, qD⟩
theorem g_pre {g : gT} {A : Nat → Prop} {s : State} {H : Heap} {locs : List Loc} {ws wc : va_W} (hK : va_K g.1 vwCl (gty g) s) (hN : gN s) (hZ : gSt g A s s.heap) (hA : ∀ q : Nat, s.heap.size ≤ q → A q) (hP : va_P g.1 vwCl ws H) (hD : va_D A ws) (hS : va_S A s.heap H locs)
    (is : List Nat) (hnd : va_nd is = true) (hs : is.map (fun i => ws[i]?) = wc.map some) (av : List Value) : ∀ U : State, U.heap = H → s.WarmedH U.vm → va_Pc av (gPre g wc H.size) av.toArray U := by
  intro U hU hW
  have hF := va_free (wc := wc) hD hS hA is hs
  exact ⟨rfl, by rw [hU], by rw [hU]; exact g_sub (A := A) hP is hs, ⟨va_K.moved hW.alike hK, gN.warm hW hN⟩, gSt.go hZ hS hF hU hW, (hD.sub is hnd hs).weaken (fun _ _ _ _ => trivial)⟩
section GCALL
variable {p : Program} {l : Launch} {e : Env} {R : Room} {s : State} {m : MethodId} {args : Array Value} {below : List Frame} {meth : Method} {c : Code} {H : Heap} {locs : List Loc} {cells slots : Nat} {Q : State → Prop}
variable {y : MethodName} {bytes cc : ByteArray} {maxL nL n index pc : Nat} {ret : Option FieldType} {wsc Ts : List Cond} {rm : Room} {own C host : String} {b : Addr} {As rest st0 : List Value} {ls : Array Slot} {g : gT} {A : Nat → Prop} {ws wc : va_W} {S : Type}
/-- what a caller has -/
def gHas (g : gT) (A : Nat → Prop) (s : State) (H : Heap) (locs : List Loc) (ws : va_W) : Prop := va_K g.1 vwCl (gty g) s ∧ gN s ∧ gSt g A s s.heap ∧ (∀ q : Nat, s.heap.size ≤ q → A q) ∧ va_P g.1 vwCl ws H ∧ va_D A ws ∧ va_S A s.heap H locs
theorem g_mk (hK : va_K g.1 vwCl (gty g) s) (hN : gN s) (hZ : gSt g A s s.heap) (hA : ∀ q : Nat, s.heap.size ≤ q → A q) (hP : va_P g.1 vwCl ws H) (hD : va_D A ws) (hS : va_S A s.heap H locs) : gHas g A s H locs ws := ⟨hK, hN, hZ, hA, hP, hD, hS⟩
/-- the receiver is the callee's first cell -/
theorem g_recv {ci : Nat} {q : vw_C} {fs : List Value} (G : gHas g A s H locs ws) {is : List Nat} (hs : is.map (fun i => ws[i]?) = wc.map some) (hc : vwCl[ci]? = some q) (he : wc[0]? = some (b, .inr (ci, fs))) : ∃ cell : Cell, H[b]? = some cell ∧ cell.vm.isStatics = false ∧ s.vm.findClass q.1 = some cell.cls :=
  va_recv G.1 (g_sub (A := A) G.2.2.2.2.1 is hs) hc he
theorem jn_rp {w1 wn : S → va_W} (G : gHas g A s H locs ws) {is : List Nat} (hs : is.map (fun i => ws[i]?) = wc.map some) (had : ∀ u, (w1 u).map Prod.fst = wc.map Prod.fst) (hwn : ∀ u, rp is (w1 u) ws = wn u) : ∀ u, Jn g A wc (w1 u) (wn u) H := fun u H1 hk hP1 => by
  have h := g_join G.2.2.2.2.1 G.2.2.2.2.2.1 is hs (had u) hk hP1
  rw [hwn u] at h
  exact h
theorem jn_mg {w1 wn : S → va_W} (G : gHas g A s H locs ws) {is : List Nat} (hs : is.map (fun i => ws[i]?) = wc.map some) (had : ∀ u, (w1 u).map Prod.fst = wc.map Prod.fst) {cs : List (Option Nat)} {n : Nat} (hc : cdo is n = cs) (hwn : ∀ u, mg cs (w1 u) ws = wn u) : ∀ u, Jn g A wc (w1 u) (wn u) H := fun u H1 hk hP1 => by
  have h := g_joinM G.2.2.2.2.1 G.2.2.2.2.2.1 is hs (had u) hc hk hP1
  rw [hwn u] at h
  exact h
theorem jn_id (G : gHas g A s H locs ws) {is : List Nat} (hs : is.map (fun i => ws[i]?) = wc.map some) : ∀ _ : Unit, Jn g A wc wc ws H := fun _ H1 hk hP1 => by
  refine ⟨fun p q hq => ?_, G.2.2.2.2.2.1⟩
  by_cases hp : p ∈ is
  · obtain ⟨k, hk2⟩ := List.getElem?_of_mem hp
    have h1 : (is.map (fun i => ws[i]?))[k]? = some (some q) := by rw [List.getElem?_map, hk2]; exact congrArg some hq
    rw [hs, List.getElem?_map] at h1
    cases h2 : wc[k]? with
    | none => rw [h2] at h1; cases h1
    | some d =>
      rw [h2] at h1
      cases h1
      exact hP1 k _ h2
  · have hP := G.2.2.2.2.1
    have hD := G.2.2.2.2.2.1
    have hl := (hP p q hq).lt
    refine (hP p q hq).kept (hk q.1 hl (fun h => ?_))
    rcases h with ⟨k2, e, h⟩ | h
    · obtain ⟨i, h3, h4⟩ := g_at hs k2 (q.1, e) h
      have hij := hD.1 p i q (q.1, e) hq h4 rfl
      subst hij
      exact hp (List.mem_of_getElem? h3)
    · omega
theorem g_callI {post : Int32 → S → Prop} {w1 wn : S → va_W} (G : gHas g A s H locs ws) {is : List Nat} (hs : is.map (fun i => ws[i]?) = wc.map some) (hjn : ∀ u, Jn g A wc (w1 u) (wn u) H) {a : Array Value}
    (hr : va_Run p l e R s m args below meth c H locs cells slots 0 0 (F0 m pc ls st0) rest (va_Qi post (gPost g (va_A wc H.size) w1) (va_A wc H.size) a) (va_A wc H.size))
    (kk : ∀ (r : Int32) (u : S) (H1 : Heap) (locs1 : List Loc), post r u → va_P g.1 vwCl (wn u) H1 → va_D A (wn u) → va_S A s.heap H1 locs1 → W p l e R s m args below meth c H1 locs1 cells slots Q (F0 m (pc + 3) ls (.int r :: rest))) : W p l e R s m args below meth c H locs cells slots Q (F0 m pc ls st0) := by
  obtain ⟨hK, hN, hZ, hA, hP, hD, hS⟩ := G
  have hF := va_free (wc := wc) hD hS hA is hs
  refine va_calli hr hS (fun q _ h => hF q h) hF (fun r u t H1 locs1 ht hvm hw hB hz hk hS1 => ?_)
  obtain ⟨h1, h2⟩ := hjn u H1 hk (by rw [← ht]; exact hB.1)
  exact kk r u H1 locs1 hw h1 h2 hS1
theorem g_callL {post : Int64 → S → Prop} {w1 wn : S → va_W} (G : gHas g A s H locs ws) {is : List Nat} (hs : is.map (fun i => ws[i]?) = wc.map some) (hjn : ∀ u, Jn g A wc (w1 u) (wn u) H) {a : Array Value}
    (hr : va_Run p l e R s m args below meth c H locs cells slots 0 0 (F0 m pc ls st0) rest (va_Ql post (gPost g (va_A wc H.size) w1) (va_A wc H.size) a) (va_A wc H.size))
    (kk : ∀ (r : Int64) (u : S) (H1 : Heap) (locs1 : List Loc), post r u → va_P g.1 vwCl (wn u) H1 → va_D A (wn u) → va_S A s.heap H1 locs1 → W p l e R s m args below meth c H1 locs1 cells slots Q (F0 m (pc + 3) ls (.long r :: rest))) : W p l e R s m args below meth c H locs cells slots Q (F0 m pc ls st0) := by
  obtain ⟨hK, hN, hZ, hA, hP, hD, hS⟩ := G
  have hF := va_free (wc := wc) hD hS hA is hs
  refine va_calll hr hS (fun q _ h => hF q h) hF (fun r u t H1 locs1 ht hvm hw hB hz hk hS1 => ?_)
  obtain ⟨h1, h2⟩ := hjn u H1 hk (by rw [← ht]; exact hB.1)
  exact kk r u H1 locs1 hw h1 h2 hS1
theorem g_callV {post : S → Prop} {w1 wn : S → va_W} (G : gHas g A s H locs ws) {is : List Nat} (hs : is.map (fun i => ws[i]?) = wc.map some) (hjn : ∀ u, Jn g A wc (w1 u) (wn u) H) {a : Array Value}
    (hr : va_Run p l e R s m args below meth c H locs cells slots 0 0 (F0 m pc ls st0) rest (va_Qv post (gPost g (va_A wc H.size) w1) (va_A wc H.size) a) (va_A wc H.size))
    (kk : ∀ (u : S) (H1 : Heap) (locs1 : List Loc), post u → va_P g.1 vwCl (wn u) H1 → va_D A (wn u) → va_S A s.heap H1 locs1 → W p l e R s m args below meth c H1 locs1 cells slots Q (F0 m (pc + 3) ls rest)) : W p l e R s m args below meth c H locs cells slots Q (F0 m pc ls st0) := by
  obtain ⟨hK, hN, hZ, hA, hP, hD, hS⟩ := G
  have hF := va_free (wc := wc) hD hS hA is hs
  refine va_callv hr hS (fun q _ h => hF q h) hF (fun u t H1 locs1 ht hvm hw hB hz hk hS1 => ?_)
  obtain ⟨h1, h2⟩ := hjn u H1 hk (by rw [← ht]; exact hB.1)
  exact kk u H1 locs1 hw h1 h2 hS1
/-! the runs: V virtual, S static, VN, SN of a nest mate -/
theorem g_runV {Qx : Array Value → State → Outcome → State → Prop} (G : gHas g A s H locs ws) (F : CallFix p m c cc nL s args Ts own) (is : List Nat) (hnd : va_nd is = true) (hs : is.map (fun i => ws[i]?) = wc.map some) (hM : Met l y wsc rm (va_Pc (.ref b :: As) (gPre g wc H.size)) Qx 0 0 (va_A wc H.size))
    (cw : CallW R s args own C index y bytes maxL ret wsc rm 0 0 n) {ci : Nat} {q : vw_C} {fs : List Value} (hc : vwCl[ci]? = some q) (hq : q.1 = C) (he : wc[0]? = some (b, .inr (ci, fs))) (hn : As.length = n) (hsz : ls.size = nL) (hst : st0 = As.reverse ++ .ref b :: rest) (hrest : (rest.map fun v => v.category).sum ≤ 8)
    (hdg : decode cc pc = .ok (.invokevirtual index, 3)) (hf : cells ≤ R.cells ∧ slots ≤ R.slots) : va_Run p l e R s m args below meth c H locs cells slots 0 0 (F0 m pc ls st0) rest (Qx (Value.ref b :: As).toArray) (va_A wc H.size) := by
  subst hq
  subst hst
  exact va_runV (As := As) (rest := rest) F hM cw ⟨g_blind, g_recv G hs hc he, fun U hU hW => g_pre G.1 G.2.1 G.2.2.1 G.2.2.2.1 G.2.2.2.2.1 G.2.2.2.2.2.1 G.2.2.2.2.2.2 is hnd hs _ U hU hW⟩ rfl hn hsz rfl (lv_room hrest) hdg hf
theorem g_runS {Qx : Array Value → State → Outcome → State → Prop} (G : gHas g A s H locs ws) (F : CallFix p m c cc nL s args Ts own) (is : List Nat) (hnd : va_nd is = true) (hs : is.map (fun i => ws[i]?) = wc.map some) (hM : Met l y wsc rm (va_Pc As (gPre g wc H.size)) Qx 0 0 (va_A wc H.size))
    (cw : CallB R s args own index y bytes maxL ret wsc rm 0 0 n ∧ (Cond.static y).before args s = true) (hn : As.length = n) (hsz : ls.size = nL) (hst : st0 = As.reverse ++ rest) (hrest : (rest.map fun v => v.category).sum ≤ 8)
    (hdg : decode cc pc = .ok (.invokestatic index, 3)) (hf : cells ≤ R.cells ∧ slots ≤ R.slots) : va_Run p l e R s m args below meth c H locs cells slots 0 0 (F0 m pc ls st0) rest (Qx As.toArray) (va_A wc H.size) := by
  subst hst
  exact va_runS (As := As) (rest := rest) F hM cw ⟨g_blind, fun U hU hW => g_pre G.1 G.2.1 G.2.2.1 G.2.2.2.1 G.2.2.2.2.1 G.2.2.2.2.2.1 G.2.2.2.2.2.2 is hnd hs _ U hU hW⟩ rfl hn hsz rfl (lv_room hrest) hdg hf
theorem g_runVN {Qx : Array Value → State → Outcome → State → Prop} (G : gHas g A s H locs ws) (F : CallFix p m c cc nL s args Ts own) (is : List Nat) (hnd : va_nd is = true) (hs : is.map (fun i => ws[i]?) = wc.map some) (hM : Met l y wsc rm (va_Pc (.ref b :: As) (gPre g wc H.size)) Qx 0 0 (va_A wc H.size))
    (cw : va_CN R s args own index y host bytes maxL ret wsc rm 0 0 n ∧ (Cond.instanceMethod y).before args s = true ∧ (Cond.selects C y y).before args s = true) {ci : Nat} {q : vw_C} {fs : List Value} (hc : vwCl[ci]? = some q) (hq : q.1 = C) (he : wc[0]? = some (b, .inr (ci, fs))) (hn : As.length = n) (hsz : ls.size = nL) (hst : st0 = As.reverse ++ .ref b :: rest) (hrest : (rest.map fun v => v.category).sum ≤ 8)
    (hdg : decode cc pc = .ok (.invokevirtual index, 3)) (hf : cells ≤ R.cells ∧ slots ≤ R.slots) : va_Run p l e R s m args below meth c H locs cells slots 0 0 (F0 m pc ls st0) rest (Qx (Value.ref b :: As).toArray) (va_A wc H.size) := by
  subst hq
  subst hst
  exact va_runVN (As := As) (rest := rest) F hM cw ⟨g_blind, g_recv G hs hc he, fun U hU hW => g_pre G.1 G.2.1 G.2.2.1 G.2.2.2.1 G.2.2.2.2.1 G.2.2.2.2.2.1 G.2.2.2.2.2.2 is hnd hs _ U hU hW⟩ rfl hn hsz rfl (lv_room hrest) hdg hf
end GCALL
theorem nar01 {v : Int32} (h : v = 0 ∨ v = 1) : narrow .boolean (.int v) = .int v := by
  rcases h with rfl | rfl <;> rfl
section GEN
variable {l : Launch} {g : gT} {y : MethodName} {ws ws' : List Cond} {rm : Room} {av : List Value} {w0 : va_W} {S : Type} {cc : ByteArray} {maxL : Nat}
/-- the walk of a body whose end is a hypothesis -/
def gBody (l : Launch) (g : gT) (y : MethodName) (ws : List Cond) (rm : Room) (av : List Value) (w0 : va_W) (cc : ByteArray) (maxL : Nat) (E : Program → Env → State → MethodId → Array Value → List Frame → Method → Code → (Nat → Prop) → (State → Prop) → Prop) : Prop :=
  ∀ (p : Program) (e : Env) (s : State) (m : MethodId) (args : Array Value) (below : List Frame) (meth : Method) (c : Code) (A : Nat → Prop) (H : Heap) (locs : List Loc) (ls : Array Slot) (Q : State → Prop), p.tables.exec = Jvm.exec → c.code = cc → meth.name = y.name → c.maxLocals = maxL →
    (∀ w ∈ ws, w.before args s = true) → s.vm.findClass y.cls = some m.cls → (∀ q : Nat, s.heap.size ≤ q → A q) → va_K g.1 vwCl (gty g) s → gN s → gSt g A s s.heap → va_P g.1 vwCl w0 H → va_D A w0 → va_S A s.heap H locs → lv_has ls maxL (lv_args 0 av) → E p e s m args below meth c A Q →
    W p l e rm s m args below meth c H locs 0 0 Q (F0 m 0 ls [])
theorem g_enI {post : Int32 → S → Prop} {w1 : S → va_W} (hy : plainName y.cls = true) (hw : ws = Cond.code y cc maxL (some .int) :: ws') (hlen : (lg_sl av).length ≤ maxL)
    (body : gBody l g y ws rm av w0 cc maxL (fun p e s m args below meth c A Q => ∀ (v : Int32) (u : S) (H : Heap) (locs : List Loc) (pc : Nat) (ls : Array Slot), va_P g.1 vwCl (w1 u) H → va_D A (w1 u) → va_S A s.heap H locs → post v u → decode cc pc = .ok (.ireturn, 1) → W p l e rm s m args below meth c H locs rm.cells rm.slots Q (F0 m pc ls [.int v]))) : CI l g y ws rm av w0 post w1 :=
  fun sz => g_enter (Qc := fun A => va_Qi post (gPost g A w1) A) hy hw hlen (fun p e s m below meth c A ls hx hb hr hlk hnm hml hts hown hA hK hN hZ hP hD hS hl => body p e s m av.toArray below meth c A s.heap [] ls _ hx hb hnm hml hts hown hA hK hN hZ hP hD hS hl
    (fun v u H locs pc ls hP hD hS hq hd => W.iret (v := v) hx hb hr (fun t ht hW => ⟨⟨v, u, rfl, hq, by rw [ht]; exact hP, hD⟩, hS.F ht⟩) hS.2.2 hd hlk)) sz
theorem g_enB {post : Int32 → S → Prop} {w1 : S → va_W} (hy : plainName y.cls = true) (hw : ws = Cond.code y cc maxL (some .boolean) :: ws') (hlen : (lg_sl av).length ≤ maxL)
    (body : gBody l g y ws rm av w0 cc maxL (fun p e s m args below meth c A Q => ∀ (v : Int32) (u : S) (H : Heap) (locs : List Loc) (pc : Nat) (ls : Array Slot), va_P g.1 vwCl (w1 u) H → va_D A (w1 u) → va_S A s.heap H locs → (v = 0 ∨ v = 1) → post v u → decode cc pc = .ok (.ireturn, 1) → W p l e rm s m args below meth c H locs rm.cells rm.slots Q (F0 m pc ls [.int v]))) : CI l g y ws rm av w0 post w1 :=
  fun sz => g_enter (Qc := fun A => va_Qi post (gPost g A w1) A) hy hw hlen (fun p e s m below meth c A ls hx hb hr hlk hnm hml hts hown hA hK hN hZ hP hD hS hl => body p e s m av.toArray below meth c A s.heap [] ls _ hx hb hnm hml hts hown hA hK hN hZ hP hD hS hl
    (fun v u H locs pc ls hP hD hS h01 hq hd => W.zret (v := v) hx hb hr (nar01 h01) (fun t ht hW => ⟨⟨v, u, rfl, hq, by rw [ht]; exact hP, hD⟩, hS.F ht⟩) hS.2.2 hd hlk)) sz
theorem g_enL {post : Int64 → S → Prop} {w1 : S → va_W} (hy : plainName y.cls = true) (hw : ws = Cond.code y cc maxL (some .long) :: ws') (hlen : (lg_sl av).length ≤ maxL)
    (body : gBody l g y ws rm av w0 cc maxL (fun p e s m args below meth c A Q => ∀ (v : Int64) (u : S) (H : Heap) (locs : List Loc) (pc : Nat) (ls : Array Slot), va_P g.1 vwCl (w1 u) H → va_D A (w1 u) → va_S A s.heap H locs → post v u → decode cc pc = .ok (.lreturn, 1) → W p l e rm s m args below meth c H locs rm.cells rm.slots Q (F0 m pc ls [.long v]))) : CL l g y ws rm av w0 post w1 :=
  fun sz => g_enter (Qc := fun A => va_Ql post (gPost g A w1) A) hy hw hlen (fun p e s m below meth c A ls hx hb hr hlk hnm hml hts hown hA hK hN hZ hP hD hS hl => body p e s m av.toArray below meth c A s.heap [] ls _ hx hb hnm hml hts hown hA hK hN hZ hP hD hS hl
    (fun v u H locs pc ls hP hD hS hq hd => W.lret (v := v) hx hb hr (fun t ht hW => ⟨⟨v, u, rfl, hq, by rw [ht]; exact hP, hD⟩, hS.F ht⟩) hS.2.2 hd hlk)) sz
theorem g_enV {post : S → Prop} {w1 : S → va_W} (hy : plainName y.cls = true) (hw : ws = Cond.code y cc maxL none :: ws') (hlen : (lg_sl av).length ≤ maxL)
    (body : gBody l g y ws rm av w0 cc maxL (fun p e s m args below meth c A Q => ∀ (u : S) (H : Heap) (locs : List Loc) (pc : Nat) (ls : Array Slot), va_P g.1 vwCl (w1 u) H → va_D A (w1 u) → va_S A s.heap H locs → post u → decode cc pc = .ok (.return_, 1) → W p l e rm s m args below meth c H locs rm.cells rm.slots Q (F0 m pc ls []))) : CV l g y ws rm av w0 post w1 :=
  fun sz => g_enter (Qc := fun A => va_Qv post (gPost g A w1) A) hy hw hlen (fun p e s m below meth c A ls hx hb hr hlk hnm hml hts hown hA hK hN hZ hP hD hS hl => body p e s m av.toArray below meth c A s.heap [] ls _ hx hb hnm hml hts hown hA hK hN hZ hP hD hS hl
    (fun u H locs pc ls hP hD hS hq hd => W.vret hx hb hr (fun t ht hW => ⟨⟨u, rfl, hq, by rw [ht]; exact hP, hD⟩, hS.F ht⟩) hS.2.2 hd hlk)) sz
end GEN
/-- two places, one by one -/
theorem two {P : Nat → Prop} (h0 : P 0) (h1 : P 1) {j : Nat} (hj : j < 2) : P j := by
  match j, hj with
  | 0, _ => exact h0
  | 1, _ => exact h1
  | n + 2, h => omega
/-! switches -/
theorem sw_in {p : Program} {l : Launch} {e : Env} {R : Room} {s : State} {m : MethodId} {args : Array Value} {below : List Frame} {meth : Method} {c : Code} {H : Heap} {locs : List Loc} {cells slots : Nat} {Q : State → Prop} {cc : ByteArray} {pc : Nat} {ls : Array Slot} {rest : List Value}
    (hexec : p.tables.exec = Jvm.exec) (hb : c.code = cc) {dflt lo hi : Int} {offs : Array Int} {len : Nat} {x : Int32} {off : Int} {tgt : Nat} (k : Int32) (hk : x = k) (hdg : decode cc pc = .ok (.tableswitch dflt lo hi offs, len)) (h1 : ¬ k.toInt < lo) (h2 : ¬ hi < k.toInt) (ho : offs[(k.toInt - lo).toNat]? = some off) (ht : (pc : Int) + off = (tgt : Int))
    (kk : W p l e R s m args below meth c H locs cells slots Q (F0 m tgt ls rest)) : W p l e R s m args below meth c H locs cells slots Q (F0 m pc ls (.int x :: rest)) := by
  subst hk
  exact lv_tableIn hexec hb hdg h1 h2 ho ht kk
theorem sw_far {x : Int32} {lo hi : Int} (h0 : -2147483648 ≤ lo) (h9 : hi < 2147483648) (h : ∀ k : Int, lo ≤ k → k ≤ hi → ¬ x = Int32.ofInt k) : x.toInt < lo ∨ hi < x.toInt := by
  rcases Int.lt_or_le x.toInt lo with q | q
  · exact Or.inl q
  · rcases Int.lt_or_le hi x.toInt with r | r
    · exact Or.inr r
    · exact absurd (Int32.ofInt_toInt x).symm (h x.toInt q r)
/-- six places, one by one -/
theorem six {P : Nat → Prop} (h0 : P 0) (h1 : P 1) (h2 : P 2) (h3 : P 3) (h4 : P 4) (h5 : P 5) {j : Nat} (hj : j < 6) : P j := by
  match j, hj with
  | 0, _ => exact h0
  | 1, _ => exact h1
  | 2, _ => exact h2
  | 3, _ => exact h3
  | 4, _ => exact h4
  | 5, _ => exact h5
  | n + 6, h => omega
theorem in_lt {x : Int32} {n : Nat} (h : vp_in x n) : x.toNatClampNeg < n := Nat.lt_of_not_le (fun q => h (Or.inr q))
/-! rows and objects that a method makes -/
section GNEW
variable {p : Program} {l : Launch} {e : Env} {R : Room} {s : State} {m : MethodId} {args : Array Value} {below : List Frame} {meth : Method} {c : Code} {H : Heap} {locs : List Loc} {cells slots : Nat} {Q : State → Prop}
variable {y : MethodName} {bytes cc : ByteArray} {maxL nL n index pc : Nat} {ret : Option FieldType} {wsc Ts : List Cond} {rm : Room} {own C host : String} {b : Addr} {As rest st0 : List Value} {ls : Array Slot} {g : gT} {A : Nat → Prop} {ws wc : va_W} {S : Type}
theorem g_tyI {cA : ClassId} (hK : va_K g.1 vwCl (gty g) s) (h : va_K g.1 vwCl (gty g ++ [(cA, .int)]) s) : cA = gI g := Option.some.inj ((h.2 5 (cA, .int) rfl).2.symm.trans (hK.2 0 (gI g, .int) rfl).2)
theorem g_tyJ {cA : ClassId} (hK : va_K g.1 vwCl (gty g) s) (h : va_K g.1 vwCl (gty g ++ [(cA, .long)]) s) : cA = gJ g := Option.some.inj ((h.2 5 (cA, .long) rfl).2.symm.trans (hK.2 1 (gJ g, .long) rfl).2)
theorem g_tyB {cA : ClassId} (hK : va_K g.1 vwCl (gty g) s) (h : va_K g.1 vwCl (gty g ++ [(cA, .boolean)]) s) : cA = gB g := Option.some.inj ((h.2 5 (cA, .boolean) rfl).2.symm.trans (hK.2 2 (gB g, .boolean) rfl).2)
theorem g_tyS {cA : ClassId} (hK : va_K g.1 vwCl (gty g) s) (h : va_K g.1 vwCl (gty g ++ [(cA, .object RX6)]) s) : cA = gS g := by
  obtain ⟨-, k1, c1, -, -, -, h1⟩ := h.2 5 (cA, .object RX6) rfl
  obtain ⟨-, k2, c2, -, -, -, h2⟩ := hK.2 3 (gS g, .object RX6) rfl
  exact Option.some.inj (h1.symm.trans h2)
theorem g_tyW {cA : ClassId} (hK : va_K g.1 vwCl (gty g) s) (h : va_K g.1 vwCl (gty g ++ [(cA, .object RX9)]) s) : cA = gW g := by
  obtain ⟨-, k1, c1, -, -, -, h1⟩ := h.2 5 (cA, .object RX9) rfl
  obtain ⟨-, k2, c2, -, -, -, h2⟩ := hK.2 4 (gW g, .object RX9) rfl
  exact Option.some.inj (h1.symm.trans h2)
theorem g_newI (N : Nat) (hx : p.tables.exec = Jvm.exec) (hb : c.code = cc) (harr : (Cond.arrayClass .int).before args s = true) (hK : va_K g.1 vwCl (gty g) s) (hP : va_P g.1 vwCl ws H) (hD : va_D A ws) (hS : va_S A s.heap H locs) (hA : ∀ q : Nat, s.heap.size ≤ q → A q) {k : Int32} (hn : ¬ k < 0) (hN : k.toNatClampNeg = N) (hby : N * 4 ≤ 536870912) (hc : cells + 1 ≤ R.cells) (hs : slots + N ≤ R.slots) (hdg : decode cc pc = .ok (.newarray .int, 2))
    (kk : ∀ (q : Nat) (H1 : Heap), va_P g.1 vwCl (ws ++ [(q, .inl (gI g, N, .inl (fun _ => 0)))]) H1 → va_D A (ws ++ [(q, .inl (gI g, N, .inl (fun _ => 0)))]) → va_S A s.heap H1 locs → W p l e R s m args below meth c H1 locs (cells + 1) (slots + N) Q (F0 m (pc + 2) ls (.ref q :: rest))) : W p l e R s m args below meth c H locs cells slots Q (F0 m pc ls (.int k :: rest)) :=
  va_newa (atype := .int) (ty := .int) hx hb harr rfl hK hP hD hS hA (a0 := (N, .inl (fun _ => 0))) (fun _ => rfl) hn hN hby hc hs hdg (fun q cA H1 hK1 hP1 hD1 hS1 => by
    have e := g_tyI hK hK1
    subst e
    exact kk q H1 hP1 hD1 hS1)
theorem g_newJ (N : Nat) (hx : p.tables.exec = Jvm.exec) (hb : c.code = cc) (harr : (Cond.arrayClass .long).before args s = true) (hK : va_K g.1 vwCl (gty g) s) (hP : va_P g.1 vwCl ws H) (hD : va_D A ws) (hS : va_S A s.heap H locs) (hA : ∀ q : Nat, s.heap.size ≤ q → A q) {k : Int32} (hn : ¬ k < 0) (hN : k.toNatClampNeg = N) (hby : N * 8 ≤ 536870912) (hc : cells + 1 ≤ R.cells) (hs : slots + N ≤ R.slots) (hdg : decode cc pc = .ok (.newarray .long, 2))
    (kk : ∀ (q : Nat) (H1 : Heap), va_P g.1 vwCl (ws ++ [(q, .inl (gJ g, N, .inr (.inl (fun _ => 0))))]) H1 → va_D A (ws ++ [(q, .inl (gJ g, N, .inr (.inl (fun _ => 0))))]) → va_S A s.heap H1 locs → W p l e R s m args below meth c H1 locs (cells + 1) (slots + N) Q (F0 m (pc + 2) ls (.ref q :: rest))) : W p l e R s m args below meth c H locs cells slots Q (F0 m pc ls (.int k :: rest)) :=
  va_newa (atype := .long) (ty := .long) hx hb harr rfl hK hP hD hS hA (a0 := (N, .inr (.inl (fun _ => 0)))) (fun _ => rfl) hn hN hby hc hs hdg (fun q cA H1 hK1 hP1 hD1 hS1 => by
    have e := g_tyJ hK hK1
    subst e
    exact kk q H1 hP1 hD1 hS1)
theorem g_newB (N : Nat) (hx : p.tables.exec = Jvm.exec) (hb : c.code = cc) (harr : (Cond.arrayClass .boolean).before args s = true) (hK : va_K g.1 vwCl (gty g) s) (hP : va_P g.1 vwCl ws H) (hD : va_D A ws) (hS : va_S A s.heap H locs) (hA : ∀ q : Nat, s.heap.size ≤ q → A q) {k : Int32} (hn : ¬ k < 0) (hN : k.toNatClampNeg = N) (hby : N * 1 ≤ 536870912) (hc : cells + 1 ≤ R.cells) (hs : slots + N ≤ R.slots) (hdg : decode cc pc = .ok (.newarray .boolean, 2))
    (kk : ∀ (q : Nat) (H1 : Heap), va_P g.1 vwCl (ws ++ [(q, .inl (gB g, N, .inl (fun _ => 0)))]) H1 → va_D A (ws ++ [(q, .inl (gB g, N, .inl (fun _ => 0)))]) → va_S A s.heap H1 locs → W p l e R s m args below meth c H1 locs (cells + 1) (slots + N) Q (F0 m (pc + 2) ls (.ref q :: rest))) : W p l e R s m args below meth c H locs cells slots Q (F0 m pc ls (.int k :: rest)) :=
  va_newa (atype := .boolean) (ty := .boolean) hx hb harr rfl hK hP hD hS hA (a0 := (N, .inl (fun _ => 0))) (fun _ => rfl) hn hN hby hc hs hdg (fun q cA H1 hK1 hP1 hD1 hS1 => by
    have e := g_tyB hK hK1
    subst e
    exact kk q H1 hP1 hD1 hS1)
theorem g_newS (N : Nat) (hx : p.tables.exec = Jvm.exec) (hb : c.code = cc) (hown : s.vm.findClass own = some m.cls) (hcl : (Cond.classLink own index RX6).before args s = true) (hN9 : gN s) (hK : va_K g.1 vwCl (gty g) s) (hP : va_P g.1 vwCl ws H) (hD : va_D A ws) (hS : va_S A s.heap H locs) (hA : ∀ q : Nat, s.heap.size ≤ q → A q) {k : Int32} (hn : ¬ k < 0) (hN : k.toNatClampNeg = N) (hby : N * 4 ≤ 536870912) (hc : cells + 1 ≤ R.cells) (hs : slots + N ≤ R.slots) (hdg : decode cc pc = .ok (.anewarray index, 3))
    (kk : ∀ (q : Nat) (H1 : Heap), va_P g.1 vwCl (ws ++ [(q, .inl (gS g, N, .inr (.inr (.inr (.inr (fun _ => none))))))]) H1 → va_D A (ws ++ [(q, .inl (gS g, N, .inr (.inr (.inr (.inr (fun _ => none))))))]) → va_S A s.heap H1 locs → W p l e R s m args below meth c H1 locs (cells + 1) (slots + N) Q (F0 m (pc + 3) ls (.ref q :: rest))) : W p l e R s m args below meth c H locs cells slots Q (F0 m pc ls (.int k :: rest)) :=
  va_newq hx hb hown hcl hN9.2.1 hK hP hD hS hA hn hN hby hc hs hdg (fun q cA H1 hK1 hP1 hD1 hS1 => by
    have e := g_tyS hK hK1
    subst e
    exact kk q H1 hP1 hD1 hS1)
theorem g_newW (N : Nat) (hx : p.tables.exec = Jvm.exec) (hb : c.code = cc) (hown : s.vm.findClass own = some m.cls) (hcl : (Cond.classLink own index RX9).before args s = true) (hN9 : gN s) (hK : va_K g.1 vwCl (gty g) s) (hP : va_P g.1 vwCl ws H) (hD : va_D A ws) (hS : va_S A s.heap H locs) (hA : ∀ q : Nat, s.heap.size ≤ q → A q) {k : Int32} (hn : ¬ k < 0) (hN : k.toNatClampNeg = N) (hby : N * 4 ≤ 536870912) (hc : cells + 1 ≤ R.cells) (hs : slots + N ≤ R.slots) (hdg : decode cc pc = .ok (.anewarray index, 3))
    (kk : ∀ (q : Nat) (H1 : Heap), va_P g.1 vwCl (ws ++ [(q, .inl (gW g, N, .inr (.inr (.inr (.inr (fun _ => none))))))]) H1 → va_D A (ws ++ [(q, .inl (gW g, N, .inr (.inr (.inr (.inr (fun _ => none))))))]) → va_S A s.heap H1 locs → W p l e R s m args below meth c H1 locs (cells + 1) (slots + N) Q (F0 m (pc + 3) ls (.ref q :: rest))) : W p l e R s m args below meth c H locs cells slots Q (F0 m pc ls (.int k :: rest)) :=
  va_newq hx hb hown hcl hN9.2.2 hK hP hD hS hA hn hN hby hc hs hdg (fun q cA H1 hK1 hP1 hD1 hS1 => by
    have e := g_tyW hK hK1
    subst e
    exact kk q H1 hP1 hD1 hS1)
/-- a row of references by what it holds below its length -/
theorem g_refs {q0 a N : Nat} {cA : ClassId} {f f' : Nat → Option Nat} (hP : va_P g.1 vwCl ws H) (hD : va_D A ws) (hq : ws[q0]? = some (a, .inl (cA, N, .inr (.inr (.inr (.inr f)))))) (hf : ∀ j, j < N → f j = f' j) : va_P g.1 vwCl (ws.set q0 (a, .inl (cA, N, .inr (.inr (.inr (.inr f')))))) H ∧ va_D A (ws.set q0 (a, .inl (cA, N, .inr (.inr (.inr (.inr f')))))) := by
  refine ⟨hP.set hD hq ?_ (fun _ _ => rfl), hD.set hq⟩
  have h := hP q0 _ hq
  have e : vp_cell cA (N, .inr (.inr (.inr (.inr f')))) = vp_cell cA (N, .inr (.inr (.inr (.inr f)))) := by
    rw [vp_cell_q, vp_cell_q]
    unfold arrV
    congr 1
    apply congrArg
    funext j
    show va_rf (f' j.1) = va_rf (f j.1)
    rw [hf j.1 j.2]
  show H[a]? = some (vp_cell cA (N, .inr (.inr (.inr (.inr f')))))
  rw [e]
  exact h
theorem g_callC {mc ms : Nat} {post : S → Prop} {w1 : S → va_W} (G : gHas g A s H locs ws) {p0 : Nat} {x0 : Nat × va_E} (hs : [p0].map (fun i => ws[i]?) = [x0].map some) {isR : List Nat} {wr : va_W} (hR : isR.map (fun i => ws[i]?) = wr.map some) (hnd : va_nd isR = true) (hdis : ∀ i ∈ isR, i ∉ [p0]) {a : Array Value}
    (hr : va_Run p l e R s m args below meth c H locs cells slots mc ms (F0 m pc ls st0) rest (va_Qv post (gPost g (va_A [x0] H.size) w1) (va_A [x0] H.size) a) (va_A [x0] H.size))
    (kk : ∀ (u : S) (H1 : Heap) (locs1 : List Loc), post u → va_P g.1 vwCl (wr ++ w1 u) H1 → va_D A (wr ++ w1 u) → va_S A s.heap H1 locs1 → W p l e R s m args below meth c H1 locs1 (cells + mc) (slots + ms) Q (F0 m (pc + 3) ls rest)) : W p l e R s m args below meth c H locs cells slots Q (F0 m pc ls st0) := by
  obtain ⟨hK, hN, hZ, hA, hP, hD, hS⟩ := G
  have hF := va_free (wc := [x0]) hD hS hA [p0] hs
  refine va_callv hr hS (fun q _ h => hF q h) hF (fun u t H1 locs1 ht hvm hw hB hz hk hS1 => ?_)
  obtain ⟨h1, h2⟩ := va_join hP hD [p0] isR hs hR hnd hdis hk hF (by rw [← ht]; exact hB.1) hB.2
  exact kk u H1 locs1 hw h1 h2 hS1
theorem g_runI {mc ms : Nat} {Qx : Array Value → State → Outcome → State → Prop} {x0 : Nat × va_E} (G : gHas g A s H locs ws) (F : CallFix p m c cc nL s args Ts own) {p0 : Nat} (hs : [p0].map (fun i => ws[i]?) = [x0].map some) (hM : Met l y wsc rm (va_Pc [.ref b] (gPre g [x0] H.size)) Qx mc ms (va_A [x0] H.size))
    (cw : CallB R s args own index y bytes maxL none wsc rm mc ms 0 ∧ y.name = "<init>" ∧ (Cond.instanceMethod y).before args s = true) (hsz : ls.size = nL) (hrest : (rest.map fun v => v.category).sum ≤ 8)
    (hdg : decode cc pc = .ok (.invokespecial index, 3)) (hf : cells + mc ≤ R.cells ∧ slots + ms ≤ R.slots) : va_Run p l e R s m args below meth c H locs cells slots mc ms (F0 m pc ls (.ref b :: rest)) rest (Qx #[Value.ref b]) (va_A [x0] H.size) :=
  va_runI (As := []) (rest := rest) F hM cw ⟨g_blind, fun U hU hW => g_pre G.1 G.2.1 G.2.2.1 G.2.2.2.1 G.2.2.2.2.1 G.2.2.2.2.2.1 G.2.2.2.2.2.2 [p0] rfl hs _ U hU hW⟩ rfl rfl hsz rfl (lv_room hrest) hdg hf
theorem g_runIN {mc ms : Nat} {Qx : Array Value → State → Outcome → State → Prop} {x0 : Nat × va_E} (G : gHas g A s H locs ws) (F : CallFix p m c cc nL s args Ts own) {p0 : Nat} (hs : [p0].map (fun i => ws[i]?) = [x0].map some) (hM : Met l y wsc rm (va_Pc [.ref b] (gPre g [x0] H.size)) Qx mc ms (va_A [x0] H.size))
    (cw : va_CN R s args own index y host bytes maxL none wsc rm mc ms 0 ∧ y.name = "<init>" ∧ (Cond.instanceMethod y).before args s = true) (hsz : ls.size = nL) (hrest : (rest.map fun v => v.category).sum ≤ 8)
    (hdg : decode cc pc = .ok (.invokespecial index, 3)) (hf : cells + mc ≤ R.cells ∧ slots + ms ≤ R.slots) : va_Run p l e R s m args below meth c H locs cells slots mc ms (F0 m pc ls (.ref b :: rest)) rest (Qx #[Value.ref b]) (va_A [x0] H.size) :=
  va_runIN (As := []) (rest := rest) F hM cw ⟨g_blind, fun U hU hW => g_pre G.1 G.2.1 G.2.2.1 G.2.2.2.1 G.2.2.2.2.1 G.2.2.2.2.2.1 G.2.2.2.2.2.2 [p0] rfl hs _ U hU hW⟩ rfl rfl hsz rfl (lv_room hrest) hdg hf
/-- a call that makes cells and keeps them to itself -/
theorem g_callLa {mc ms : Nat} {post : Int64 → Unit → Prop} (G : gHas g A s H locs ws) {is : List Nat} (hs : is.map (fun i => ws[i]?) = wc.map some) {a : Array Value}
    (hr : va_Run p l e R s m args below meth c H locs cells slots mc ms (F0 m pc ls st0) rest (va_Ql post (gPost g (va_A wc H.size) (fun _ => wc)) (va_A wc H.size) a) (va_A wc H.size))
    (kk : ∀ (r : Int64) (H1 : Heap) (locs1 : List Loc), post r () → va_P g.1 vwCl ws H1 → va_D A ws → va_S A s.heap H1 locs1 → W p l e R s m args below meth c H1 locs1 (cells + mc) (slots + ms) Q (F0 m (pc + 3) ls (.long r :: rest))) : W p l e R s m args below meth c H locs cells slots Q (F0 m pc ls st0) := by
  have hjn := jn_id G hs
  obtain ⟨hK, hN, hZ, hA, hP, hD, hS⟩ := G
  have hF := va_free (wc := wc) hD hS hA is hs
  refine va_calll hr hS (fun q _ h => hF q h) hF (fun r u t H1 locs1 ht hvm hw hB hz hk hS1 => ?_)
  obtain ⟨h1, h2⟩ := hjn () H1 hk (by rw [← ht]; exact hB.1)
  exact kk r H1 locs1 hw h1 h2 hS1
/-- a call that makes a row and answers it -/
theorem g_callRa {mc ms : Nat} {post : S → Prop} {ex : S → va_E} (G : gHas g A s H locs ws) {is : List Nat} (hs : is.map (fun i => ws[i]?) = wc.map some) {a : Array Value}
    (hr : va_Run p l e R s m args below meth c H locs cells slots mc ms (F0 m pc ls st0) rest (va_Qr post (fun u a t => va_P g.1 vwCl (wc ++ [(a, ex u)]) t.heap ∧ va_D (va_A wc H.size) (wc ++ [(a, ex u)])) (va_A wc H.size) a) (va_A wc H.size))
    (kk : ∀ (u : S) (q : Nat) (H1 : Heap) (locs1 : List Loc), post u → va_P g.1 vwCl (ws ++ [(q, ex u)]) H1 → va_D A (ws ++ [(q, ex u)]) → va_S A s.heap H1 locs1 → W p l e R s m args below meth c H1 locs1 (cells + mc) (slots + ms) Q (F0 m (pc + 3) ls (.ref q :: rest))) : W p l e R s m args below meth c H locs cells slots Q (F0 m pc ls st0) := by
  have hjn := jn_id G hs
  obtain ⟨hK, hN, hZ, hA, hP, hD, hS⟩ := G
  have hF := va_free (wc := wc) hD hS hA is hs
  refine va_callr hr hS (fun q _ h => hF q h) hF (fun u ra t H1 locs1 ht hvm hw hB hz hk hS1 => ?_)
  have hB1 : va_P g.1 vwCl (wc ++ [(ra, ex u)]) H1 := by rw [← ht]; exact hB.1
  have hwc : va_P g.1 vwCl wc H1 := fun k q hq => hB1 k q (by rw [List.getElem?_append_left (List.getElem?_eq_some_iff.mp hq).1]; exact hq)
  have hnew : (wc ++ [(ra, ex u)])[wc.length]? = some (ra, ex u) := by simp
  obtain ⟨h1, h2⟩ := hjn () H1 hk hwc
  have hra : H.size ≤ ra := by
    rcases hB.2.2 _ _ hnew with ⟨k, e, h⟩ | h
    · have hl := (List.getElem?_eq_some_iff.mp h).1
      have h5 : (wc ++ [(ra, ex u)])[k]? = some (ra, e) := by rw [List.getElem?_append_left hl]; exact h
      have h6 := hB.2.1 _ _ _ _ h5 hnew rfl
      omega
    · exact h
  refine kk u ra H1 locs1 hw (va_P.app h1 (fun k q hq => ?_)) (va_D.app h2 ⟨fun i j x y hi hj hxy => ?_, fun k q hq => ?_⟩ (fun i j x y hx hy hxy => ?_)) hS1
  · have hk0 : k = 0 := by have := (List.getElem?_eq_some_iff.mp hq).1; simpa using this
    subst hk0
    cases hq
    exact hB1 _ _ hnew
  · have h5 := (List.getElem?_eq_some_iff.mp hi).1
    have h6 := (List.getElem?_eq_some_iff.mp hj).1
    simp at h5 h6
    omega
  · have hk0 : k = 0 := by have := (List.getElem?_eq_some_iff.mp hq).1; simpa using this
    subst hk0
    cases hq
    exact hF _ (hB.2.2 _ _ hnew)
  · have hk0 : j = 0 := by have := (List.getElem?_eq_some_iff.mp hy).1; simpa using this
    subst hk0
    cases hy
    have h7 := (hP i x hx).lt
    have h8 : x.1 = ra := hxy
    omega
theorem g_runVa {mc ms : Nat} {Qx : Array Value → State → Outcome → State → Prop} (G : gHas g A s H locs ws) (F : CallFix p m c cc nL s args Ts own) (is : List Nat) (hnd : va_nd is = true) (hs : is.map (fun i => ws[i]?) = wc.map some) (hM : Met l y wsc rm (va_Pc (.ref b :: As) (gPre g wc H.size)) Qx mc ms (va_A wc H.size))
    (cw : CallW R s args own C index y bytes maxL ret wsc rm mc ms n) {ci : Nat} {q : vw_C} {fs : List Value} (hc : vwCl[ci]? = some q) (hq : q.1 = C) (he : wc[0]? = some (b, .inr (ci, fs))) (hn : As.length = n) (hsz : ls.size = nL) (hst : st0 = As.reverse ++ .ref b :: rest) (hrest : (rest.map fun v => v.category).sum ≤ 8)
    (hdg : decode cc pc = .ok (.invokevirtual index, 3)) (hf : cells + mc ≤ R.cells ∧ slots + ms ≤ R.slots) : va_Run p l e R s m args below meth c H locs cells slots mc ms (F0 m pc ls st0) rest (Qx (Value.ref b :: As).toArray) (va_A wc H.size) := by
  subst hq
  subst hst
  exact va_runV (As := As) (rest := rest) F hM cw ⟨g_blind, g_recv G hs hc he, fun U hU hW => g_pre G.1 G.2.1 G.2.2.1 G.2.2.2.1 G.2.2.2.2.1 G.2.2.2.2.2.1 G.2.2.2.2.2.2 is hnd hs _ U hU hW⟩ rfl hn hsz rfl (lv_room hrest) hdg hf
end GNEW
section GENR
variable {l : Launch} {g : gT} {y : MethodName} {ws ws' : List Cond} {rm : Room} {av : List Value} {w0 : va_W} {S : Type} {cc : ByteArray} {maxL : Nat}
theorem g_enR {rt : FieldType} {post : S → Prop} {w1 : S → Nat → va_W} (hrt : (∃ n, rt = .object n) ∨ ∃ t, rt = .array t) (hy : plainName y.cls = true) (hw : ws = Cond.code y cc maxL (some rt) :: ws') (hlen : (lg_sl av).length ≤ maxL)
    (body : gBody l g y ws rm av w0 cc maxL (fun p e s m args below meth c A Q => ∀ (u : S) (a : Nat) (H : Heap) (locs : List Loc) (pc : Nat) (ls : Array Slot), va_P g.1 vwCl (w1 u a) H → va_D A (w1 u a) → va_S A s.heap H locs → post u → decode cc pc = .ok (.areturn, 1) → W p l e rm s m args below meth c H locs rm.cells rm.slots Q (F0 m pc ls [.ref a]))) : CR l g y ws rm av w0 post w1 :=
  fun sz => g_enter (Qc := fun A => va_Qr post (fun u a t => va_P g.1 vwCl (w1 u a) t.heap ∧ va_D A (w1 u a)) A) hy hw hlen (fun p e s m below meth c A ls hx hb hr hlk hnm hml hts hown hA hK hN hZ hP hD hS hl => body p e s m av.toArray below meth c A s.heap [] ls _ hx hb hnm hml hts hown hA hK hN hZ hP hD hS hl
    (fun u a H locs pc ls hP hD hS hq hd => W.aret (v := .ref a) hx hb hr hrt (Or.inr ⟨a, rfl⟩) (fun t ht hW => ⟨⟨u, a, rfl, hq, by rw [ht]; exact hP, hD⟩, hS.F ht⟩) hS.2.2 hd hlk)) sz
end GENR
