set_option maxRecDepth 20000 in
theorem lk_L_113 : ab_LS RL 113 yL_rivers cL_rivers 16 (some .boolean) 1 := ⟨⟨Or.inl (xt 750 (by decide +kernel) (by decide +kernel)), xt 751 (by decide +kernel) (by decide +kernel), xt 0 (by decide +kernel) (by decide +kernel), xt 752 rfl (by decide +kernel)⟩, (by decide +kernel), (by decide +kernel), (by decide +kernel)⟩
