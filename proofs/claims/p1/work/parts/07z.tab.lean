/-! the tables, together: TO COME (07d0 .. 07f lie in wip/p1/later) -/
theorem abTabsOk : abTabs := by
  sorry
