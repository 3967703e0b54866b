def sw : Nat → Int64
  | 0 => (-6148914691236517206)
  | 1 => (-3689348814741910324)
  | 2 => (-1085102592571150096)
  | 3 => (-71777214294589696)
  | 4 => (-281470681808896)
  | 5 => (-4294967296)
  | _ => 0
/-! loops: a body that may ask for itself again -/
def itr {σ : Type} (F : (σ → Prop) → σ → Prop) : Nat → σ → Prop
  | 0, _ => False
  | n + 1, st => F (itr F n) st
theorem itr_of {σ : Type} (F : (σ → Prop) → σ → Prop) (I : σ → Prop) (μ : σ → Nat) (hs : ∀ (again : σ → Prop) (st : σ), I st → (∀ st', I st' → μ st' < μ st → again st') → F again st) : ∀ (n : Nat) (st : σ), I st → μ st < n → itr F n st
  | 0, _, _, h => absurd h (Nat.not_lt_zero _)
  | n + 1, st, hI, hm => hs (itr F n) st hI (fun st' h1 h2 => itr_of F I μ hs n st' h1 (by omega))
theorem itr_ex {σ : Type} (F : (σ → Prop) → σ → Prop) (I : σ → Prop) (μ : σ → Nat) (hs : ∀ (again : σ → Prop) (st : σ), I st → (∀ st', I st' → μ st' < μ st → again st') → F again st) (st : σ) (h : I st) : ∃ n, itr F n st := ⟨μ st + 1, itr_of F I μ hs _ st h (Nat.lt_succ_self _)⟩
