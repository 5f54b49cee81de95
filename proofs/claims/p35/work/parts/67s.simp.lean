/-! More rules for going through a method: conditions at any depth. -/
noncomputable def iH {α : Type} (c : Prop) (A B : Option α) : Option α := @ite _ c (Classical.propDecidable c) A B
theorem ite_iH {α : Type} (c : Prop) [Decidable c] (A B : Option α) : (if c then A else B) = iH c (@hidI _ ⟨A⟩) (@hidI _ ⟨B⟩) := by
  by_cases h : c
  · rw [if_pos h]; exact (@if_pos c (Classical.propDecidable c) h _ A B).symm
  · rw [if_neg h]; exact (@if_neg c (Classical.propDecidable c) h _ A B).symm
theorem iH_pos {α : Type} {c : Prop} (h : c) (A B : Option α) : iH c (@hidI _ ⟨A⟩) (@hidI _ ⟨B⟩) = A := @if_pos c (Classical.propDecidable c) h _ A B
theorem iH_neg {α : Type} {c : Prop} (h : ¬c) (A B : Option α) : iH c (@hidI _ ⟨A⟩) (@hidI _ ⟨B⟩) = B := @if_neg c (Classical.propDecidable c) h _ A B
theorem iH_t {α : Type} (A B : Option α) : iH True (@hidI _ ⟨A⟩) (@hidI _ ⟨B⟩) = A := iH_pos trivial A B
theorem iH_f {α : Type} (A B : Option α) : iH False (@hidI _ ⟨A⟩) (@hidI _ ⟨B⟩) = B := iH_neg not_false A B
theorem bH_iH {α β : Type} (c : Prop) (A B : Option α) (K : α → Option β) : bH (iH c (@hidI _ ⟨A⟩) (@hidI _ ⟨B⟩)) K = iH c (@hidI _ ⟨bH A K⟩) (@hidI _ ⟨bH B K⟩) := by
  by_cases h : c
  · rw [iH_pos h, iH_pos h]
  · rw [iH_neg h, iH_neg h]
theorem bH_bind {α β γ : Type} (m : Option α) (k : α → Option β) (K : β → Option γ) : bH (m.bind k) K = bH m (@hidI _ ⟨fun x => bH (k x) K⟩) := by
  unfold bH hidI; cases m <;> rfl
theorem xr_iH {σ τ : Type} (c : Prop) (A B : Option τ) : (xr (iH c (@hidI _ ⟨A⟩) (@hidI _ ⟨B⟩)) : Option (σ ⊕ τ)) = iH c (@hidI _ ⟨xr A⟩) (@hidI _ ⟨xr B⟩) := by
  by_cases h : c
  · rw [iH_pos h, iH_pos h]
  · rw [iH_neg h, iH_neg h]
theorem xr_bind {α σ τ : Type} (m : Option α) (k : α → Option τ) : (xr (m.bind k) : Option (σ ⊕ τ)) = bH m (@hidI _ ⟨fun x => xr (k x)⟩) := by
  unfold bH hidI xr; cases m <;> rfl
theorem W_iH {α : Type} (c : Prop) (A B : Option α) (Q : α → Prop) : WP (iH c (@hidI _ ⟨A⟩) (@hidI _ ⟨B⟩)) Q = WI c (@hidI _ ⟨A⟩) (@hidI _ ⟨B⟩) Q := by
  apply propext
  constructor
  · intro h
    refine ⟨fun hc => ?_, fun hc => ?_⟩
    · rw [iH_pos hc] at h; exact h
    · rw [iH_neg hc] at h; exact h
  · rintro ⟨h1, h2⟩
    by_cases hc : c
    · rw [iH_pos hc]; exact h1 hc
    · rw [iH_neg hc]; exact h2 hc
