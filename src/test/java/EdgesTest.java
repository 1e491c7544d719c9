/** Each sentence of the document that names an edge, by a test of its own; none is left out. */
final class EdgesTest {
    public static void main(String[] args) {
        EdgesOfHills.check();
        EdgesOfSticks.check();
        EdgesOfWouldBe.check();
        EdgesOfSeen.check();
        EdgesOfTold.check();
        EdgesOfRefusals.check();
        Doc.allIsQuoted();
        Check.end();
    }
}
