theorem kFam {c : Cond} {ws : List Cond} {b : Cond} (h : c ∈ b :: ws) : ∀ w ∈ c :: ws, w ∈ b :: ws := fun w hw => (List.mem_cons.mp hw).elim (fun e => by rw [e]; exact h) (fun hw => List.mem_cons_of_mem _ hw)
theorem kFamG {c : Cond} {ws : List Cond} (h : goodWord c = true) (g : ws.all goodWord = true) : (c :: ws).all goodWord = true := by rw [List.all_cons, h, g]; rfl

