theorem kFamG {c : Cond} {ws : List Cond} (h : goodWord c = true) (g : ws.all goodWord = true) : (c :: ws).all goodWord = true := by rw [List.all_cons, h, g]; rfl


