/-! ===== what feed brings is bytes ===== -/
theorem fd_g_nil : fd_g [] := fun b h => absurd h (List.not_mem_nil)
theorem fd_g_app {a b : List Int32} (h1 : fd_g a) (h2 : fd_g b) : fd_g (a ++ b) := fun x h => by
  rcases List.mem_append.mp h with h | h
  · exact h1 x h
  · exact h2 x h
theorem fd_g_1 {w s : Int32} : fd_g (fd_1 (fd_y w s)) := fun x h => by
  unfold fd_1 at h
  split at h
  · exact absurd h (List.not_mem_nil)
  · rename_i h0
    rw [List.mem_singleton] at h
    subst h
    refine ⟨?_, h0⟩
    unfold fd_y
    rw [Int32.and_assoc]
    rfl
theorem fd_g_b {w : Int32} : fd_g (fd_b w) := fd_g_app (fd_g_app (fd_g_app fd_g_1 fd_g_1) fd_g_1) fd_g_1
theorem fd_g_B {a b c d e : Int32} : fd_g (fd_B a b c d e) := fd_g_app (fd_g_app (fd_g_app (fd_g_app fd_g_b fd_g_b) fd_g_b) fd_g_b) fd_g_b
theorem fd_g_take {a : List Int32} (n : Nat) (h : fd_g a) : fd_g (a.take n) := fun x hx => h x (List.mem_of_mem_take hx)
/-- no byte is the sign for the end -/
theorem fd_g_ne {bs : List Int32} {p : Nat} (hg : fd_g bs) (h : p < bs.length) : ¬ rd_at bs p = -1 := by
  rw [rd_at_lt h]
  intro z
  have q := (hg _ (List.getElem_mem h)).1
  rw [z] at q
  exact absurd q (by decide)
section TAKE
variable {σ : am_St} {bs : List Int32}
theorem fd_C_take {n : Nat} (h : fd_C σ bs) (hn : n ≤ bs.length) : fd_C (am_sI σ 126 0 (nI n)) (bs.take n) := by
  have e : (bs.take n).length = n := by rw [List.length_take]; omega
  refine ⟨h.1, h.2.1, h.2.2.1, by rw [e]; exact Nat.le_trans hn h.2.2.2.1, by rw [g_I_sI, if_pos ⟨rfl, rfl⟩, e], fun i hi => ?_⟩
  rw [g_I_sI, if_neg (by omega), h.2.2.2.2.2 i (by omega), List.getElem_take]
theorem fd_M_take {n : Nat} (h : fd_M σ bs) (hn : n ≤ bs.length) : fd_M (am_sI σ 161 2 (nI n)) (bs.take n) := by
  have e : (bs.take n).length = n := by rw [List.length_take]; omega
  refine ⟨h.1, h.2.1, h.2.2.1, by rw [e]; exact Nat.le_trans hn h.2.2.2.1, by rw [g_I_sI, if_pos ⟨rfl, rfl⟩, e], fun i hi => ?_⟩
  rw [g_I_sI, if_neg (by omega), h.2.2.2.2.2 i (by omega), List.getElem_take]
end TAKE
