/** The calls that README.md shows under 'Use' answer what is written there beside them. */
public final class ReadmeTest {
    public static void main(String[] args) {
        Checks checks = new Checks();
        checks.under("README.md, Use");
        CertificateDesk desk = new CertificateDesk();
        checks.done("constant(3.0)", () -> desk.constant(3.0));
        checks.ints("row(2, 0.0, 112.0)", () -> desk.row(2, 0.0, 112.0), 0);
        checks.ints("column(-24.0, 1, 0.0, 0.0)", () -> desk.column(-24.0, 1, 0.0, 0.0), 0);
        checks.ints("entry(0, 0, 8.0)", () -> desk.entry(0, 0, 8.0), 1);
        checks.ints("pair(0, 0, 2.0)", () -> desk.pair(0, 0, 2.0), 1);
        checks.done("x(0, 32.0, 0)", () -> desk.x(0, 32.0, 0));
        checks.done("y(0, -1.0, 3)", () -> desk.y(0, -1.0, 3));
        checks.certify("V(row)", desk, 5, 0, 144.0);
        checks.certify("r", desk, 7, 0, 104.0);
        checks.certify("the greatest V(dual)", desk, 2, 0, 0.0);
        checks.certify("what is minimized", desk, 4, 0, 259.0);
        checks.certify("the GAP", desk, 3, 0, 2176.0);
        checks.sign("the GAP", desk, 3, 0, 1);
        checks.end();
    }
}
