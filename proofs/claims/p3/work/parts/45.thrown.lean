abbrev cX11_thrown : ByteArray := prog_11_method_2_code
def yX11_thrown : MethodName := ⟨RX11, "thrown", "()I"⟩
def wsX11_thrown : List Cond := .code yX11_thrown cX11_thrown 1 (some .int) :: ([.fieldLink RX11 43 "WattgovernModel" "code" "I"] ++ wsX110)
theorem dX11_thrown_0 : decode cX11_thrown 0 = .ok (.aload_n 0, 1) := by decide +kernel
theorem dX11_thrown_1 : decode cX11_thrown 1 = .ok (.getfield 43, 3) := by decide +kernel
theorem dX11_thrown_4 : decode cX11_thrown 4 = .ok (.ireturn, 1) := by decide +kernel
