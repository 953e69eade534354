theorem zl1 : twL.length = 1 := by decide +kernel
theorem zl2 : twL.length = 2 := by decide +kernel
theorem zl3 : twL.length = 3 := by decide +kernel
theorem zl4 : twL.length = 4 := by decide +kernel
theorem zl5 : twL.length = 5 := by decide +kernel
theorem zl6 : twL.length = 6 := by decide +kernel
theorem zl7 : twL.length = 7 := by decide +kernel
theorem zl8 : twL.length = 8 := by decide +kernel
theorem zl9 : twL.length = 9 := by decide +kernel
theorem zl10 : twL.length = 10 := by decide +kernel
theorem zl11 : twL.length = 11 := by decide +kernel
theorem zl12 : twL.length = 12 := by decide +kernel
theorem zl13 : twL.length = 13 := by decide +kernel
theorem zl14 : twL.length = 14 := by decide +kernel
theorem zl15 : twL.length = 15 := by decide +kernel
theorem za_codeSync : twL.any (fun w => match w with | .codeSync .. => true | _ => false) = true := by decide +kernel
theorem za_methodLink : twL.any (fun w => match w with | .methodLink .. => true | _ => false) = true := by decide +kernel
theorem za_fieldLink : twL.any (fun w => match w with | .fieldLink .. => true | _ => false) = true := by decide +kernel
theorem za_selects : twL.any (fun w => match w with | .selects .. => true | _ => false) = true := by decide +kernel
theorem za_castable : twL.any (fun w => match w with | .castable .. => true | _ => false) = true := by decide +kernel
theorem za_lays : twL.any (fun w => match w with | .lays .. => true | _ => false) = true := by decide +kernel
theorem za_superclass : twL.any (fun w => match w with | .superclass .. => true | _ => false) = true := by decide +kernel
theorem za_native : twL.any (fun w => match w with | .native .. => true | _ => false) = true := by decide +kernel
theorem za_instanceMethod : twL.any (fun w => match w with | .instanceMethod .. => true | _ => false) = true := by decide +kernel
theorem za_code : twL.any (fun w => match w with | .code .. => true | _ => false) = true := by decide +kernel
theorem za_initialized : twL.any (fun w => match w with | .initialized .. => true | _ => false) = true := by decide +kernel
theorem za_instantiable : twL.any (fun w => match w with | .instantiable .. => true | _ => false) = true := by decide +kernel
theorem za_laysStatic : twL.any (fun w => match w with | .laysStatic .. => true | _ => false) = true := by decide +kernel
theorem za_classLink : twL.any (fun w => match w with | .classLink .. => true | _ => false) = true := by decide +kernel
theorem za_privateMethod : twL.any (fun w => match w with | .privateMethod .. => true | _ => false) = true := by decide +kernel
theorem za_static : twL.any (fun w => match w with | .static .. => true | _ => false) = true := by decide +kernel
theorem za_isRef : twL.any (fun w => match w with | .isRef .. => true | _ => false) = true := by decide +kernel
theorem za_not : twL.any (fun w => match w with | .not .. => true | _ => false) = true := by decide +kernel
theorem za_fieldLinkNest : twL.any (fun w => match w with | .fieldLinkNest .. => true | _ => false) = true := by decide +kernel
theorem za_methodLinkNest : twL.any (fun w => match w with | .methodLinkNest .. => true | _ => false) = true := by decide +kernel
theorem za_declares : twL.any (fun w => match w with | .declares .. => true | _ => false) = true := by decide +kernel
theorem za_laysFinal : twL.any (fun w => match w with | .laysFinal .. => true | _ => false) = true := by decide +kernel
