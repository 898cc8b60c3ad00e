theorem bc_256 : ∀ a : Fin 256, ∀ b : Fin 256, fn_J_bitCount (nI (256 * a.val + b.val)) = nI (pc (256 * a.val + b.val) 16) := by decide +kernel
theorem bc_pc {B : Nat} (hB : B < 65536) : fn_J_bitCount (nI B) = nI (pc B 16) := by
  have h := bc_256 ⟨B / 256, by omega⟩ ⟨B % 256, by omega⟩
  rw [show 256 * (B / 256) + B % 256 = B by omega] at h
  exact h

