/-! All twenty cases. -/
theorem lCas_Syn : lCas Syn := fun M1 M2 o x1 x2 x3 x4 h w1 w2 w3 w4 => ⟨yc_0 h, yc_1 h, yc_2 h w1 w2 w3 w4, yc_3 h w1 w2 w3, yc_4 h, yc_5 h, yc_6 h w1, yc_7 h, yc_8 h w1, yc_9 h w1 w2 w3 w4, yc_10 h, yc_11 h w1, yc_12 h w1 w2 w3 w4, yc_13 h w1 w2 w3 w4, yc_14 h w1, yc_15 h w1, yc_16 h w1 w2, yc_17 h, yc_18 h w1, yc_19 h w1 w2 w3⟩
