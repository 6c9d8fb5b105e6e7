def wsQ_X10_line : List Cond := .code yX10_line cX10_line 4 (some .int) :: wsV RX10 114 RX10 yX10_needSurveyor wsX10_needSurveyor
theorem hQ_X10_line_needSurveyor : GoodIn wsQ_X10_line (wsV RX10 114 RX10 yX10_needSurveyor wsX10_needSurveyor) := goodIn_sub (fun _ h => List.mem_cons_of_mem _ h) (by decide +kernel)
def wsQ_L_line : List Cond := .codeWith yL_line cL_line 4 (some .int) [(0, 9, 12, 36)] :: wsV RL 104 RX10 yX10_line wsQ_X10_line
theorem hQ_L_line_X10_line : GoodIn wsQ_L_line (wsV RL 104 RX10 yX10_line wsQ_X10_line) := goodIn_sub (fun _ h => List.mem_cons_of_mem _ h) (by decide +kernel)
