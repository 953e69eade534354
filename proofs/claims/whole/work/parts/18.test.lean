theorem zz_tw1 : twL.all (fun w => match w with | .codeSync .. => true | _ => false) = true := by decide +kernel
theorem zz_tw3 : twL.length = 3 := by decide +kernel
