set_option maxRecDepth 20000 in
theorem lk_L_74 : ab_LS RL 74 yL_lines cL_lines 19 (some .boolean) 1 := ⟨⟨Or.inl (xt 700 (by decide +kernel) (by decide +kernel)), xt 701 (by decide +kernel) (by decide +kernel), xt 0 (by decide +kernel) (by decide +kernel), xt 702 rfl (by decide +kernel)⟩, (by decide +kernel), (by decide +kernel), (by decide +kernel)⟩
