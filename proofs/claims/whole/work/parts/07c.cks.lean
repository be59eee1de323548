set_option maxRecDepth 1000000 in
set_option maxHeartbeats 0 in
theorem lm_k190 : lm_ck (lm_e190, lm_r190) := ⟨rfl, by decide +kernel, by decide +kernel, by decide +kernel⟩
set_option maxRecDepth 1000000 in
set_option maxHeartbeats 0 in
theorem lm_k191 : lm_ck (lm_e191, lm_r191) := ⟨rfl, by decide +kernel, by decide +kernel, by decide +kernel⟩
set_option maxRecDepth 1000000 in
set_option maxHeartbeats 0 in
theorem lm_k192 : lm_ck (lm_e192, lm_r192) := ⟨rfl, by decide +kernel, by decide +kernel, by decide +kernel⟩
set_option maxRecDepth 1000000 in
set_option maxHeartbeats 0 in
theorem lm_k193 : lm_ck (lm_e193, lm_r193) := ⟨rfl, by decide +kernel, by decide +kernel, by decide +kernel⟩
set_option maxRecDepth 1000000 in
set_option maxHeartbeats 0 in
theorem lm_k194 : lm_ck (lm_e194, lm_r194) := ⟨rfl, by decide +kernel, by decide +kernel, by decide +kernel⟩
set_option maxRecDepth 1000000 in
set_option maxHeartbeats 0 in
theorem lm_k195 : lm_ck (lm_e195, lm_r195) := ⟨rfl, by decide +kernel, by decide +kernel, by decide +kernel⟩
set_option maxRecDepth 1000000 in
set_option maxHeartbeats 0 in
theorem lm_k196 : lm_ck (lm_e196, lm_r196) := ⟨rfl, by decide +kernel, by decide +kernel, by decide +kernel⟩
set_option maxRecDepth 1000000 in
set_option maxHeartbeats 0 in
theorem lm_k197 : lm_ck (lm_e197, lm_r197) := ⟨rfl, by decide +kernel, by decide +kernel, by decide +kernel⟩
set_option maxRecDepth 1000000 in
set_option maxHeartbeats 0 in
theorem lm_k198 : lm_ck (lm_e198, lm_r198) := ⟨rfl, by decide +kernel, by decide +kernel, by decide +kernel⟩
set_option maxRecDepth 1000000 in
set_option maxHeartbeats 0 in
theorem lm_k199 : lm_ck (lm_e199, lm_r199) := ⟨rfl, by decide +kernel, by decide +kernel, by decide +kernel⟩
set_option maxRecDepth 1000000 in
set_option maxHeartbeats 0 in
theorem lm_k200 : lm_ck (lm_e200, lm_r200) := ⟨rfl, by decide +kernel, by decide +kernel, by decide +kernel⟩
set_option maxRecDepth 1000000 in
set_option maxHeartbeats 0 in
theorem lm_k201 : lm_ck (lm_e201, lm_r201) := ⟨rfl, by decide +kernel, by decide +kernel, by decide +kernel⟩
set_option maxRecDepth 1000000 in
set_option maxHeartbeats 0 in
theorem lm_k202 : lm_ck (lm_e202, lm_r202) := ⟨rfl, by decide +kernel, by decide +kernel, by decide +kernel⟩
set_option maxRecDepth 1000000 in
set_option maxHeartbeats 0 in
theorem lm_k203 : lm_ck (lm_e203, lm_r203) := ⟨rfl, by decide +kernel, by decide +kernel, by decide +kernel⟩
set_option maxRecDepth 1000000 in
set_option maxHeartbeats 0 in
theorem lm_k204 : lm_ck (lm_e204, lm_r204) := ⟨rfl, by decide +kernel, by decide +kernel, by decide +kernel⟩
set_option maxRecDepth 1000000 in
set_option maxHeartbeats 0 in
theorem lm_k205 : lm_ck (lm_e205, lm_r205) := ⟨rfl, by decide +kernel, by decide +kernel, by decide +kernel⟩
set_option maxRecDepth 1000000 in
set_option maxHeartbeats 0 in
theorem lm_k206 : lm_ck (lm_e206, lm_r206) := ⟨rfl, by decide +kernel, by decide +kernel, by decide +kernel⟩
set_option maxRecDepth 1000000 in
set_option maxHeartbeats 0 in
theorem lm_k207 : lm_ck (lm_e207, lm_r207) := ⟨rfl, by decide +kernel, by decide +kernel, by decide +kernel⟩
set_option maxRecDepth 1000000 in
set_option maxHeartbeats 0 in
theorem lm_k208 : lm_ck (lm_e208, lm_r208) := ⟨rfl, by decide +kernel, by decide +kernel, by decide +kernel⟩
set_option maxRecDepth 1000000 in
set_option maxHeartbeats 0 in
theorem lm_k209 : lm_ck (lm_e209, lm_r209) := ⟨rfl, by decide +kernel, by decide +kernel, by decide +kernel⟩
set_option maxRecDepth 1000000 in
set_option maxHeartbeats 0 in
theorem lm_k210 : lm_ck (lm_e210, lm_r210) := ⟨rfl, by decide +kernel, by decide +kernel, by decide +kernel⟩
set_option maxRecDepth 1000000 in
set_option maxHeartbeats 0 in
theorem lm_k211 : lm_ck (lm_e211, lm_r211) := ⟨rfl, by decide +kernel, by decide +kernel, by decide +kernel⟩
set_option maxRecDepth 1000000 in
set_option maxHeartbeats 0 in
theorem lm_k212 : lm_ck (lm_e212, lm_r212) := ⟨rfl, by decide +kernel, by decide +kernel, by decide +kernel⟩
set_option maxRecDepth 1000000 in
set_option maxHeartbeats 0 in
theorem lm_k213 : lm_ck (lm_e213, lm_r213) := ⟨rfl, by decide +kernel, by decide +kernel, by decide +kernel⟩
set_option maxRecDepth 1000000 in
set_option maxHeartbeats 0 in
theorem lm_k214 : lm_ck (lm_e214, lm_r214) := ⟨rfl, by decide +kernel, by decide +kernel, by decide +kernel⟩
set_option maxRecDepth 1000000 in
set_option maxHeartbeats 0 in
theorem lm_k215 : lm_ck (lm_e215, lm_r215) := ⟨rfl, by decide +kernel, by decide +kernel, by decide +kernel⟩
set_option maxRecDepth 1000000 in
set_option maxHeartbeats 0 in
theorem lm_k216 : lm_ck (lm_e216, lm_r216) := ⟨rfl, by decide +kernel, by decide +kernel, by decide +kernel⟩
set_option maxRecDepth 1000000 in
set_option maxHeartbeats 0 in
theorem lm_k217 : lm_ck (lm_e217, lm_r217) := ⟨rfl, by decide +kernel, by decide +kernel, by decide +kernel⟩
set_option maxRecDepth 1000000 in
set_option maxHeartbeats 0 in
theorem lm_k218 : lm_ck (lm_e218, lm_r218) := ⟨rfl, by decide +kernel, by decide +kernel, by decide +kernel⟩
set_option maxRecDepth 1000000 in
set_option maxHeartbeats 0 in
theorem lm_k219 : lm_ck (lm_e219, lm_r219) := ⟨rfl, by decide +kernel, by decide +kernel, by decide +kernel⟩
set_option maxRecDepth 1000000 in
set_option maxHeartbeats 0 in
theorem lm_k220 : lm_ck (lm_e220, lm_r220) := ⟨rfl, by decide +kernel, by decide +kernel, by decide +kernel⟩
set_option maxRecDepth 1000000 in
set_option maxHeartbeats 0 in
theorem lm_k221 : lm_ck (lm_e221, lm_r221) := ⟨rfl, by decide +kernel, by decide +kernel, by decide +kernel⟩
set_option maxRecDepth 1000000 in
set_option maxHeartbeats 0 in
theorem lm_k222 : lm_ck (lm_e222, lm_r222) := ⟨rfl, by decide +kernel, by decide +kernel, by decide +kernel⟩
set_option maxRecDepth 1000000 in
set_option maxHeartbeats 0 in
theorem lm_k223 : lm_ck (lm_e223, lm_r223) := ⟨rfl, by decide +kernel, by decide +kernel, by decide +kernel⟩
set_option maxRecDepth 1000000 in
set_option maxHeartbeats 0 in
theorem lm_k224 : lm_ck (lm_e224, lm_r224) := ⟨rfl, by decide +kernel, by decide +kernel, by decide +kernel⟩
set_option maxRecDepth 1000000 in
set_option maxHeartbeats 0 in
theorem lm_k225 : lm_ck (lm_e225, lm_r225) := ⟨rfl, by decide +kernel, by decide +kernel, by decide +kernel⟩
set_option maxRecDepth 1000000 in
set_option maxHeartbeats 0 in
theorem lm_k226 : lm_ck (lm_e226, lm_r226) := ⟨rfl, by decide +kernel, by decide +kernel, by decide +kernel⟩
set_option maxRecDepth 1000000 in
set_option maxHeartbeats 0 in
theorem lm_k227 : lm_ck (lm_e227, lm_r227) := ⟨rfl, by decide +kernel, by decide +kernel, by decide +kernel⟩
set_option maxRecDepth 1000000 in
set_option maxHeartbeats 0 in
theorem lm_k228 : lm_ck (lm_e228, lm_r228) := ⟨rfl, by decide +kernel, by decide +kernel, by decide +kernel⟩
set_option maxRecDepth 1000000 in
set_option maxHeartbeats 0 in
theorem lm_k229 : lm_ck (lm_e229, lm_r229) := ⟨rfl, by decide +kernel, by decide +kernel, by decide +kernel⟩
set_option maxRecDepth 1000000 in
set_option maxHeartbeats 0 in
theorem lm_k230 : lm_ck (lm_e230, lm_r230) := ⟨rfl, by decide +kernel, by decide +kernel, by decide +kernel⟩
set_option maxRecDepth 1000000 in
set_option maxHeartbeats 0 in
theorem lm_k231 : lm_ck (lm_e231, lm_r231) := ⟨rfl, by decide +kernel, by decide +kernel, by decide +kernel⟩
set_option maxRecDepth 1000000 in
set_option maxHeartbeats 0 in
theorem lm_k232 : lm_ck (lm_e232, lm_r232) := ⟨rfl, by decide +kernel, by decide +kernel, by decide +kernel⟩
set_option maxRecDepth 1000000 in
set_option maxHeartbeats 0 in
theorem lm_k233 : lm_ck (lm_e233, lm_r233) := ⟨rfl, by decide +kernel, by decide +kernel, by decide +kernel⟩
set_option maxRecDepth 1000000 in
set_option maxHeartbeats 0 in
theorem lm_k234 : lm_ck (lm_e234, lm_r234) := ⟨rfl, by decide +kernel, by decide +kernel, by decide +kernel⟩
set_option maxRecDepth 1000000 in
set_option maxHeartbeats 0 in
theorem lm_k235 : lm_ck (lm_e235, lm_r235) := ⟨rfl, by decide +kernel, by decide +kernel, by decide +kernel⟩
set_option maxRecDepth 1000000 in
set_option maxHeartbeats 0 in
theorem lm_k236 : lm_ck (lm_e236, lm_r236) := ⟨rfl, by decide +kernel, by decide +kernel, by decide +kernel⟩
set_option maxRecDepth 1000000 in
set_option maxHeartbeats 0 in
theorem lm_k237 : lm_ck (lm_e237, lm_r237) := ⟨rfl, by decide +kernel, by decide +kernel, by decide +kernel⟩
set_option maxRecDepth 1000000 in
set_option maxHeartbeats 0 in
theorem lm_k238 : lm_ck (lm_e238, lm_r238) := ⟨rfl, by decide +kernel, by decide +kernel, by decide +kernel⟩
set_option maxRecDepth 1000000 in
set_option maxHeartbeats 0 in
theorem lm_k239 : lm_ck (lm_e239, lm_r239) := ⟨rfl, by decide +kernel, by decide +kernel, by decide +kernel⟩
set_option maxRecDepth 1000000 in
set_option maxHeartbeats 0 in
theorem lm_k240 : lm_ck (lm_e240, lm_r240) := ⟨rfl, by decide +kernel, by decide +kernel, by decide +kernel⟩
set_option maxRecDepth 1000000 in
set_option maxHeartbeats 0 in
theorem lm_k241 : lm_ck (lm_e241, lm_r241) := ⟨rfl, by decide +kernel, by decide +kernel, by decide +kernel⟩
set_option maxRecDepth 1000000 in
set_option maxHeartbeats 0 in
theorem lm_k242 : lm_ck (lm_e242, lm_r242) := ⟨rfl, by decide +kernel, by decide +kernel, by decide +kernel⟩
set_option maxRecDepth 1000000 in
set_option maxHeartbeats 0 in
theorem lm_k243 : lm_ck (lm_e243, lm_r243) := ⟨rfl, by decide +kernel, by decide +kernel, by decide +kernel⟩
set_option maxRecDepth 1000000 in
set_option maxHeartbeats 0 in
theorem lm_k244 : lm_ck (lm_e244, lm_r244) := ⟨rfl, by decide +kernel, by decide +kernel, by decide +kernel⟩
set_option maxRecDepth 1000000 in
set_option maxHeartbeats 0 in
theorem lm_k245 : lm_ck (lm_e245, lm_r245) := ⟨rfl, by decide +kernel, by decide +kernel, by decide +kernel⟩
set_option maxRecDepth 1000000 in
set_option maxHeartbeats 0 in
theorem lm_k246 : lm_ck (lm_e246, lm_r246) := ⟨rfl, by decide +kernel, by decide +kernel, by decide +kernel⟩
set_option maxRecDepth 1000000 in
set_option maxHeartbeats 0 in
theorem lm_k247 : lm_ck (lm_e247, lm_r247) := ⟨rfl, by decide +kernel, by decide +kernel, by decide +kernel⟩
set_option maxRecDepth 1000000 in
set_option maxHeartbeats 0 in
theorem lm_k248 : lm_ck (lm_e248, lm_r248) := ⟨rfl, by decide +kernel, by decide +kernel, by decide +kernel⟩
set_option maxRecDepth 1000000 in
set_option maxHeartbeats 0 in
theorem lm_k249 : lm_ck (lm_e249, lm_r249) := ⟨rfl, by decide +kernel, by decide +kernel, by decide +kernel⟩
set_option maxRecDepth 1000000 in
set_option maxHeartbeats 0 in
theorem lm_k250 : lm_ck (lm_e250, lm_r250) := ⟨rfl, by decide +kernel, by decide +kernel, by decide +kernel⟩
set_option maxRecDepth 1000000 in
set_option maxHeartbeats 0 in
theorem lm_k251 : lm_ck (lm_e251, lm_r251) := ⟨rfl, by decide +kernel, by decide +kernel, by decide +kernel⟩
set_option maxRecDepth 1000000 in
set_option maxHeartbeats 0 in
theorem lm_k252 : lm_ck (lm_e252, lm_r252) := ⟨rfl, by decide +kernel, by decide +kernel, by decide +kernel⟩
set_option maxRecDepth 1000000 in
set_option maxHeartbeats 0 in
theorem lm_k253 : lm_ck (lm_e253, lm_r253) := ⟨rfl, by decide +kernel, by decide +kernel, by decide +kernel⟩
set_option maxRecDepth 1000000 in
set_option maxHeartbeats 0 in
theorem lm_k254 : lm_ck (lm_e254, lm_r254) := ⟨rfl, by decide +kernel, by decide +kernel, by decide +kernel⟩
set_option maxRecDepth 1000000 in
set_option maxHeartbeats 0 in
theorem lm_k255 : lm_ck (lm_e255, lm_r255) := ⟨rfl, by decide +kernel, by decide +kernel, by decide +kernel⟩
set_option maxRecDepth 1000000 in
set_option maxHeartbeats 0 in
theorem lm_k256 : lm_ck (lm_e256, lm_r256) := ⟨rfl, by decide +kernel, by decide +kernel, by decide +kernel⟩
set_option maxRecDepth 1000000 in
set_option maxHeartbeats 0 in
theorem lm_k257 : lm_ck (lm_e257, lm_r257) := ⟨rfl, by decide +kernel, by decide +kernel, by decide +kernel⟩
set_option maxRecDepth 1000000 in
set_option maxHeartbeats 0 in
theorem lm_k258 : lm_ck (lm_e258, lm_r258) := ⟨rfl, by decide +kernel, by decide +kernel, by decide +kernel⟩
set_option maxRecDepth 1000000 in
set_option maxHeartbeats 0 in
theorem lm_k259 : lm_ck (lm_e259, lm_r259) := ⟨rfl, by decide +kernel, by decide +kernel, by decide +kernel⟩
set_option maxRecDepth 1000000 in
set_option maxHeartbeats 0 in
theorem lm_k260 : lm_ck (lm_e260, lm_r260) := ⟨rfl, by decide +kernel, by decide +kernel, by decide +kernel⟩
set_option maxRecDepth 1000000 in
set_option maxHeartbeats 0 in
theorem lm_k261 : lm_ck (lm_e261, lm_r261) := ⟨rfl, by decide +kernel, by decide +kernel, by decide +kernel⟩
set_option maxRecDepth 1000000 in
set_option maxHeartbeats 0 in
theorem lm_k262 : lm_ck (lm_e262, lm_r262) := ⟨rfl, by decide +kernel, by decide +kernel, by decide +kernel⟩
set_option maxRecDepth 1000000 in
set_option maxHeartbeats 0 in
theorem lm_k263 : lm_ck (lm_e263, lm_r263) := ⟨rfl, by decide +kernel, by decide +kernel, by decide +kernel⟩
set_option maxRecDepth 1000000 in
set_option maxHeartbeats 0 in
theorem lm_k264 : lm_ck (lm_e264, lm_r264) := ⟨rfl, by decide +kernel, by decide +kernel, by decide +kernel⟩
set_option maxRecDepth 1000000 in
set_option maxHeartbeats 0 in
theorem lm_k265 : lm_ck (lm_e265, lm_r265) := ⟨rfl, by decide +kernel, by decide +kernel, by decide +kernel⟩
set_option maxRecDepth 1000000 in
set_option maxHeartbeats 0 in
theorem lm_k266 : lm_ck (lm_e266, lm_r266) := ⟨rfl, by decide +kernel, by decide +kernel, by decide +kernel⟩
set_option maxRecDepth 1000000 in
set_option maxHeartbeats 0 in
theorem lm_k267 : lm_ck (lm_e267, lm_r267) := ⟨rfl, by decide +kernel, by decide +kernel, by decide +kernel⟩
set_option maxRecDepth 1000000 in
set_option maxHeartbeats 0 in
theorem lm_k268 : lm_ck (lm_e268, lm_r268) := ⟨rfl, by decide +kernel, by decide +kernel, by decide +kernel⟩
set_option maxRecDepth 1000000 in
set_option maxHeartbeats 0 in
theorem lm_k269 : lm_ck (lm_e269, lm_r269) := ⟨rfl, by decide +kernel, by decide +kernel, by decide +kernel⟩
set_option maxRecDepth 1000000 in
set_option maxHeartbeats 0 in
theorem lm_k270 : lm_ck (lm_e270, lm_r270) := ⟨rfl, by decide +kernel, by decide +kernel, by decide +kernel⟩
set_option maxRecDepth 1000000 in
set_option maxHeartbeats 0 in
theorem lm_k271 : lm_ck (lm_e271, lm_r271) := ⟨rfl, by decide +kernel, by decide +kernel, by decide +kernel⟩
