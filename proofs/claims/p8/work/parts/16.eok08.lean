theorem xblk_app {f : Nat → xE → Bool} : ∀ (A B : xT) (n : Nat), xblk f n A = true → xblk f (n + A.length) B = true → xblk f n (A ++ B) = true
  | [], B, n, _, h2 => by simpa using h2
  | l :: A, B, n, h1, h2 => by
    simp only [xblk, Bool.and_eq_true] at h1
    have ih := xblk_app A B (n + 1) h1.2 (by
      rw [show n + 1 + A.length = n + (l :: A).length by simp; omega]
      exact h2)
    show (xrow f (8 * n) l && xblk f (n + 1) (A ++ B)) = true
    rw [h1.1, ih]
    rfl
def xlf (pc : Nat) (e : xE) : Bool := decide (decode code pc = .ok (e.1, xln e)) && xchk 16 false 4 12 268 pc e
theorem xlaw_0 : xblk xlf 0 xt_356_0 = true := by decide +kernel
theorem xlaw_1 : xblk xlf 15 xt_356_1 = true := by decide +kernel
theorem xlaw_2 : xblk xlf 30 xt_356_2 = true := by decide +kernel
theorem xlaw_3 : xblk xlf 45 xt_356_3 = true := by decide +kernel
theorem xlaw_4 : xblk xlf 60 xt_356_4 = true := by decide +kernel
theorem xlaw_5 : xblk xlf 75 xt_356_5 = true := by decide +kernel
