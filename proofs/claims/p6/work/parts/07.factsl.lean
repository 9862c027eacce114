set_option maxRecDepth 20000 in
theorem zobjK : Cond.instanceMethod Lib.objectInit ∈ zws ∧ Cond.code Lib.objectInit ⟨#[0xb1]⟩ 1 none ∈ zws := ⟨zws_in (i := 1032) (by decide +kernel) (by decide +kernel), zws_in (i := 1033) (by decide +kernel) (by decide +kernel)⟩
set_option maxRecDepth 20000 in
theorem zmaxK : Cond.static Lib.Math.max.name ∈ zws ∧ Cond.initialized "java/lang/Math" ∈ zws ∧ Cond.code Lib.Math.max.name Lib.Math.max.code 2 (some .int) ∈ zws := ⟨zws_in (i := 4217) (by decide +kernel) (by decide +kernel), zws_in (i := 1014) (by decide +kernel) (by decide +kernel), zws_in (i := 4218) (by decide +kernel) (by decide +kernel)⟩
set_option maxRecDepth 20000 in
theorem zminK : Cond.static Lib.Math.min.name ∈ zws ∧ Cond.initialized "java/lang/Math" ∈ zws ∧ Cond.code Lib.Math.min.name Lib.Math.min.code 2 (some .int) ∈ zws := ⟨zws_in (i := 3039) (by decide +kernel) (by decide +kernel), zws_in (i := 1014) (by decide +kernel) (by decide +kernel), zws_in (i := 3040) (by decide +kernel) (by decide +kernel)⟩
set_option maxRecDepth 20000 in
theorem zabsK : Cond.static Lib.Math.abs.name ∈ zws ∧ Cond.initialized "java/lang/Math" ∈ zws ∧ Cond.code Lib.Math.abs.name Lib.Math.abs.code 1 (some .int) ∈ zws := ⟨zws_in (i := 5093) (by decide +kernel) (by decide +kernel), zws_in (i := 1014) (by decide +kernel) (by decide +kernel), zws_in (i := 5094) (by decide +kernel) (by decide +kernel)⟩
set_option maxRecDepth 20000 in
theorem zcpyK : Cond.native arraycopyName ∈ zws ∧ Cond.static arraycopyName ∈ zws ∧ Cond.initialized "java/lang/System" ∈ zws := ⟨zws_in (i := 5174) (by decide +kernel) (by decide +kernel), zws_in (i := 5173) (by decide +kernel) (by decide +kernel), zws_in (i := 1021) (by decide +kernel) (by decide +kernel)⟩
