/** Promise 10: the layer IN USE by an answer. */
public final class VariantTest {
    public static void main(String[] args) {
        DescribeText x = Due.with("variant b = 5 ; variant a = 999999 ; variant b = 0 ; layer a { service s = 1 { } } layer b { }"
                + " layer c { service s = 2 { } } layer d { }");
        Due.is("service(2, 4) with the first layer", x.service(2, 4), 1);
        Due.is("variant(5)", x.variant(5), 2);
        Due.is("service(2, 4) with b", x.service(2, 4), 0);
        Due.is("variant(999999)", x.variant(999999), 1);
        Due.is("variant(0)", x.variant(0), 2);
        for (int z : new int[] {1, -5, -1, 4, 6, Integer.MAX_VALUE, Integer.MIN_VALUE}) {
            Due.is("variant(" + z + ")", x.variant(z), 3);
        }
        Due.is("service(1, 4) with c", x.service(1, 4), 2);

        DescribeText all = Due.with("layer a { service s = 1 { } } variant a = 5 ;");
        Due.is("service(1, 4)", all.service(1, 4), 1);
        Due.is("variant(6) with none left", all.variant(6), 0);
        Due.is("service(1, 4) with none", all.service(1, 4), 0);
        Due.is("variant(5)", all.variant(5), 1);
        Due.is("service(1, 4) again", all.service(1, 4), 1);

        Due.is("variant(5) of a text without layers", Due.with("code 1 = x ;").variant(5), 0);
        Due.is("variant(5) without variants", Due.with("layer a { } layer b { }").variant(5), 1);
        Due.is("variant(5) with nothing IN HAND", new DescribeText().variant(5), -3);
        Due.done();
    }
}
