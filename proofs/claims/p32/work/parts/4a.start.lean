
/-! THE START: the new object. -/
theorem zk_0 (n : Nat) : zok 0 n := ⟨by decide, by rw [show zn32 0 = 0 by decide]; exact Nat.zero_le n⟩
theorem z_no {v : Int32} {k : Nat} (h : k < zn32 v) (h0 : v = 0) : False := by
  subst h0
  rw [show zn32 0 = 0 by decide] at h
  exact Nat.not_lt_zero _ h
theorem h_ok_new : h_ok h_new := ⟨zk_0 _, ⟨zk_0 _, fun i hi => (z_no hi rfl).elim⟩, zk_0 _, fun i hi => (z_no hi rfl).elim⟩
theorem e_ok_new : e_ok e_new := ⟨h_ok_new, h_ok_new, ⟨zk_0 _, zk_0 _⟩, fun _ _ => h_ok_new, fun _ _ => h_ok_new, zk_0 _, fun _ => rfl, fun _ => rfl, zk_0 _⟩

