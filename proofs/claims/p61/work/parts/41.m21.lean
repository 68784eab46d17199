theorem bE.frp {b w : Mm} (h : bE b) (g : FRp b w) : bE w := fun i x y => by rw [g _ _ _ (by decide) (by decide), g _ _ _ (by decide) (by decide)]; exact h i x y
