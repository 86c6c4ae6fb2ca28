set_option maxRecDepth 100000 in
theorem cd_X5_isSame : Cond.code yX5_isSame cX5_isSame 10 (some FieldType.boolean) ∈ TB := tb_of 559 rfl rfl
