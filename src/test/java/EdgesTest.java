/**
 * Every sentence of the document that names an edge, each with a test of its own that quotes it and stands on both
 * sides of the edge. The promises' own tests beside this one look at what lies between.
 */
final class EdgesTest {
    public static void main(String[] args) {
        EdgesOfSizes.run();
        EdgesOfValues.run();
        EdgesOfCalls.run();
        EdgesOfSet.run();
        EdgesOfJumps.run();
        EdgesOfFaults.run();
        EdgesOfEnvironments.run();
        EdgesOfLimits.run();
        EdgesOfPromises.run();
        EdgesOfAnswers.run();
        Doc.tellWhatNoTestQuoted();
        Check.end();
    }
}
