theorem fig_le {ra : Nat} {sh : Nat → Int32} {fr nn : Nat} {v3 : Int32} : (m_X3_figure ra sh v3 fr nn).2 ≤ ra + 1 := by
  unfold m_X3_figure
  (repeat' split) <;> simp
