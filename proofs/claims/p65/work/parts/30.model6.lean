theorem wr_id {σ : Mem} {o c j : Nat} {v : Int32} (h : rd σ o c j = v) : wr σ o c j v = σ := by
  refine mem_ext (fun a b d => ?_) (fun _ => rfl)
  rw [rd_wr]
  split
  · next q =>
    rw [q.1, q.2.1, q.2.2]
    exact h.symm
  · rfl
