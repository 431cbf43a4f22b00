theorem xeok_all : ∀ y, y < 357 → xeok y = true := sorry
