/-! what the tables say of the law: its long constants, by program -/
theorem kl_9 : (Jvm.Cond.constantLong "ToolCribLaw" (9 : Nat) (15 : Int64)) ∈ TB := tb_3 145 rfl rfl
theorem kl_17 : (Jvm.Cond.constantLong "ToolCribLaw" (17 : Nat) (-16 : Int64)) ∈ TB := tb_3 149 rfl rfl
theorem kl_19 : (Jvm.Cond.constantLong "ToolCribLaw" (19 : Nat) (263882790666240 : Int64)) ∈ TB := tb_3 150 rfl rfl
theorem kl_49 : (Jvm.Cond.constantLong "ToolCribLaw" (49 : Nat) (63 : Int64)) ∈ TB := tb_4 71 rfl rfl
theorem kl_51 : (Jvm.Cond.constantLong "ToolCribLaw" (51 : Nat) (1023 : Int64)) ∈ TB := tb_4 72 rfl rfl
theorem kl_53 : (Jvm.Cond.constantLong "ToolCribLaw" (53 : Nat) (255 : Int64)) ∈ TB := tb_4 73 rfl rfl
