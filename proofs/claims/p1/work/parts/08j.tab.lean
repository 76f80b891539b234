theorem abTabsOk : abTabs := by sorry
