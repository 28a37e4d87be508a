/-! The kinds that the law catches. -/
theorem q_m_IA : q_IA ∈ q_exs := List.mem_cons_self
theorem q_m_IS : q_IS ∈ q_exs := List.mem_cons_of_mem _ List.mem_cons_self
theorem q_m_NE : q_NE ∈ q_exs := List.mem_cons_of_mem _ (List.mem_cons_of_mem _ List.mem_cons_self)
theorem q_m_IO : q_IO ∈ q_exs := List.mem_cons_of_mem _ (List.mem_cons_of_mem _ (List.mem_cons_of_mem _ List.mem_cons_self))
