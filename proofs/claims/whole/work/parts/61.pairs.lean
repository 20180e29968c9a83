/-! ===== all pairs of calls answer alike ===== -/
theorem pairs_ok (g : GG) : ∃ Rel : Mem → Prop, Pairs g Rel ∧ Rel M0 := ⟨Rel, ⟨p_type, p_clear, p_moor, p_cell, p_walker, p_passes, p_days, p_now, p_anew, p_steps, p_way, p_stones, p_joined, p_likes, p_byTurns, p_apart, p_rate, p_keep, p_back, p_count, p_trace⟩, rel_0⟩
